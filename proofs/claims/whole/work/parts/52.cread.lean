/-! the class reads a text -/
def CHP (h : HP) (a m : Nat) (dr : Nat → Int) : HP := fun q j => if q = 38 then dr j else if q = 36 ∧ j = 2 then (a : Int) else if q = 36 ∧ j = 3 then (m : Int) else h q j
def appR : (Nat → Int) → Nat → List Int → (Nat → Int)
  | dr, _, [] => dr
  | dr, m, x :: L => appR (st1 dr m x) (m + 1) L
theorem appR_app : ∀ (A B : List Int) (dr : Nat → Int) (m : Nat), appR dr m (A ++ B) = appR (appR dr m A) (m + A.length) B
  | [], B, dr, m => rfl
  | x :: A, B, dr, m => by
    show appR (st1 dr m x) (m + 1) (A ++ B) = appR (appR (st1 dr m x) (m + 1) A) (m + (A.length + 1)) B
    rw [appR_app A B, show m + 1 + A.length = m + (A.length + 1) by omega]
theorem appR_n : ∀ (A : List Int) (dr : Nat → Int) (m j : Nat), (j < m ∨ m + A.length ≤ j) → appR dr m A j = dr j
  | [], dr, m, j, _ => rfl
  | x :: A, dr, m, j, hj => by
    show appR (st1 dr m x) (m + 1) A j = dr j
    have hj' : j < m ∨ m + (A.length + 1) ≤ j := hj
    rw [appR_n A _ _ _ (by omega), st1_n (by omega)]
theorem appR_g : ∀ (A : List Int) (dr : Nat → Int) (m j : Nat), j < A.length → appR dr m A (m + j) = A.getD j 0
  | [], dr, m, j, hj => absurd hj (Nat.not_lt_zero _)
  | x :: A, dr, m, 0, hj => by
    show appR (st1 dr m x) (m + 1) A (m + 0) = x
    rw [appR_n A _ _ _ (by omega)]
    show st1 dr m x m = x
    exact st1_s
  | x :: A, dr, m, j + 1, hj => by
    show appR (st1 dr m x) (m + 1) A (m + (j + 1)) = A.getD j 0
    have hj' : j + 1 < A.length + 1 := hj
    rw [show m + (j + 1) = m + 1 + j by omega]
    exact appR_g A _ _ _ (by omega)
section RD
variable {d : Nat} {h : HP} {Q : PV → HP → Prop} {a m n : Nat} {dr : Nat → Int}
theorem CHP_p {q : Nat} (h1 : q ≠ 38) (h2 : q ≠ 36) : CHP h a m dr q = h q := by funext j; simp [CHP, h1, h2]
theorem CHP_1 : CHP h a m dr 36 1 = h 36 1 := by simp [CHP]
theorem CHP_2 : CHP h a m dr 36 2 = a := by simp [CHP]
theorem CHP_3 : CHP h a m dr 36 3 = m := by simp [CHP]
theorem CHP_38 : CHP h a m dr 38 = dr := by funext j; simp [CHP]
theorem CHP_u {a' : Nat} {v : Int} (e : v = a') : up2 (CHP h a m dr) 36 2 v = CHP h a' m dr := by
  subst e
  funext q j
  unfold up2 CHP
  by_cases c1 : q = 36 ∧ j = 2
  · obtain ⟨c, c'⟩ := c1
    subst c c'
    simp
  · simp only [c1, if_false]
theorem CHP_w {x v : Int} (e : v = ((m + 1 : Nat) : Int)) : up2 (up2 (CHP h a m dr) 38 m x) 36 3 v = CHP h a (m + 1) (st1 dr m x) := by
  subst e
  funext q j
  unfold up2 CHP st1
  by_cases c1 : q = 36 ∧ j = 3
  · obtain ⟨c, c'⟩ := c1
    subst c c'
    simp
  · by_cases c2 : q = 38
    · subst c2
      by_cases c3 : j = m
      · simp [c3]
      · simp [c3]
    · simp only [c1, c2, if_false, false_and]
theorem nxc_b {b : Nat → Int} (hb : rgA b 0 255) : -1 ≤ nxc b n a ∧ nxc b n a ≤ 255 := by
  unfold nxc
  have := hb a
  split <;> omega
theorem c_next (hn : h 36 1 = n) (n40 : n ≤ 40) (H : Q (I (nxc (h 37) n a)) (CHP h a m dr)) : X d 30 0 [some (P 36)] [] (CHP h a m dr) Q := by
  refine z30 ?_
  rw [CHP_1, CHP_2, hn, CHP_p (by decide) (by decide)]
  simp only [Int.toNat_natCast]
  unfold nxc at H
  refine br_i (fun q => ?_) (fun q => an_i (by omega) (by omega) ?_)
  · rw [if_neg (by omega)] at H; exact H
  · rw [if_pos (by omega)] at H; exact H
theorem c_take {c : Int} (hc : c ≠ -1) (hn : h 36 1 = n) (n40 : n ≤ 40) (H1 : nxc (h 37) n a = c → Q (I 1) (CHP h (a + 1) m dr)) (H2 : ¬ nxc (h 37) n a = c → Q (I 0) (CHP h a m dr)) : X d 31 0 [some (P 36), some (I c)] [] (CHP h a m dr) Q := by
  refine z31 ?_
  rw [CHP_1, CHP_2, hn, CHP_p (by decide) (by decide)]
  simp only [Int.toNat_natCast]
  unfold nxc at H1 H2
  refine br_i (fun q => ?_) (fun q => an_i (by omega) (by omega) (br_i (fun q2 => ?_) (fun q2 => ?_)))
  · rw [if_neg (by omega)] at H2; exact H2 (fun x => hc x.symm)
  · rw [if_pos (by omega)] at H1
    rw [CHP_u (a' := a + 1) (w32_n (by omega))]
    exact H1 q2
  · rw [if_pos (by omega)] at H2; exact H2 q2
theorem c_digit {most : Int} (hb : rgA (h 37) 0 255) (hn : h 36 1 = n) (n40 : n ≤ 40) (H1 : ¬ dgt (h 37) n a most < 0 → Q (I (dgt (h 37) n a most)) (CHP h (a + 1) m dr)) (H2 : dgt (h 37) n a most < 0 → Q (I (-1)) (CHP h a m dr)) : X d 33 0 [some (P 36), some (I most), none] [] (CHP h a m dr) Q := by
  have r := hb a
  refine z33 ?_
  rw [CHP_1, CHP_2, hn, CHP_p (by decide) (by decide)]
  simp only [Int.toNat_natCast]
  rw [w32_of (x := h 37 a - 48) (by omega) (by omega)]
  refine br_i (fun q => ?_) (fun q => an_i (by omega) (by omega) ?_)
  · have e : dgt (h 37) n a most = -1 := by
      unfold dgt nxc
      rw [if_neg (show ¬ a < n by omega), if_neg (by omega)]
    exact H2 (by omega)
  · have en : nxc (h 37) n a = h 37 a := by unfold nxc; rw [if_pos (by omega)]
    refine br_i (fun q2 => ?_) (fun q2 => br_i (fun q3 => ?_) (fun q3 => ?_))
    · have e : dgt (h 37) n a most = -1 := by unfold dgt; rw [en, if_neg (by omega)]
      exact H2 (by omega)
    · have e : dgt (h 37) n a most = h 37 a - 48 := by unfold dgt; rw [en, if_pos (by omega)]
      rw [e] at H1
      rw [CHP_u (a' := a + 1) (w32_n (by omega))]
      exact H1 (by omega)
    · have e : dgt (h 37) n a most = -1 := by unfold dgt; rw [en, if_neg (by omega)]
      exact H2 (by omega)
theorem c_write {x : Int} (hm : m < 40) (H : Q (I 0) (CHP h a (m + 1) (st1 dr m x))) : X d 32 0 [some (P 36), some (I x)] [] (CHP h a m dr) Q := by
  refine z32 ?_
  rw [CHP_3]
  simp only [Int.toNat_natCast]
  refine br_i (fun q => an_i (by omega) (by omega) ?_) (fun q => absurd (by omega) q)
  rw [CHP_w (w32_n (by omega))]
  exact H
/-- what is left behind an expression -/
def CK (Q : PV → HP → Prop) (h : HP) (m : Nat) (dr : Nat → Int) (r : PRS) : Prop := (r.1 = true → Q (I 1) (CHP h r.2.1 (m + r.2.2.1.length) (appR dr m r.2.2.1))) ∧ (r.1 = false → ∀ m' dr', Q (I 0) (CHP h r.2.1 m' dr'))
theorem CK_f {a' : Nat} (K : CK Q h m dr (pFl a')) (m' : Nat) (dr' : Nat → Int) : Q (I 0) (CHP h a' m' dr') := K.2 rfl m' dr'
theorem or_st {what sg num : Int} (w0 : 0 ≤ what) (w1 : what < 16) (s0 : 0 ≤ sg) (s1 : sg < 4) (n0 : 0 ≤ num) (n1 : num < 1024) : bOr (bOr (bOr 1048576 (bShl what 12)) (bShl sg 10)) num = stF what sg num := by
  obtain ⟨w, rfl⟩ := Int.eq_ofNat_of_zero_le w0
  obtain ⟨g, rfl⟩ := Int.eq_ofNat_of_zero_le s0
  obtain ⟨k, rfl⟩ := Int.eq_ofNat_of_zero_le n0
  have e1 : bShl (w : Int) 12 = ((w * 2 ^ 12 : Nat) : Int) := bShl_n (k := 12) (by omega) (by decide)
  have e2 : bShl (g : Int) 10 = ((g * 2 ^ 10 : Nat) : Int) := bShl_n (k := 10) (by omega) (by decide)
  have e3 : (1048576 : Int) = ((2 ^ 20 * 1 : Nat) : Int) := by decide
  rw [e1, e2, e3, bOr_n (by decide) (by omega), ← Nat.two_pow_add_eq_or_of_lt (show w * 2 ^ 12 < 2 ^ 20 by omega) 1]
  rw [bOr_n (by omega) (by omega), show 2 ^ 20 * 1 + w * 2 ^ 12 = 2 ^ 12 * (256 + w) by omega, ← Nat.two_pow_add_eq_or_of_lt (show g * 2 ^ 10 < 2 ^ 12 by omega) (256 + w)]
  rw [bOr_n (by omega) (by omega), show 2 ^ 12 * (256 + w) + g * 2 ^ 10 = 2 ^ 10 * (4 * (256 + w) + g) by omega, ← Nat.two_pow_add_eq_or_of_lt (show k < 2 ^ 10 by omega) (4 * (256 + w) + g)]
  unfold stF
  omega
set_option maxHeartbeats 4000000 in
theorem c_fact (hb : rgA (h 37) 0 255) (hn : h 36 1 = n) (n40 : n ≤ 40) (hm : m ≤ a) (K : CK Q h m dr (pFa (h 37) n a)) : X (d + 2) 40 0 [some (P 36), none, none, none, none, none] [] (CHP h a m dr) Q := by
  have W : ∀ (what sg num : Int) (v4 : Int) (a' : Nat), 0 ≤ what → what < 16 → 0 ≤ sg → sg < 4 → 0 ≤ num → num < 1024 → m < 40 → CK Q h m dr (pOk what sg num a') → X (d + 2) 40 134 [some (P 36), some (I what), some (I sg), some (I num), some (I v4), none] [] (CHP h a' m dr) Q := by
    intro what sg num v4 a' w0 w1 s0 s1 n0 n1 m4 K
    refine b40_134 ?_
    rw [or_st w0 w1 s0 s1 n0 n1]
    exact c_write m4 (b40_152 (K.1 rfl))
  have G : ∀ (what : Int) (a' : Nat), 0 ≤ what → what < 16 → a + 1 ≤ a' → CK Q h m dr (pCm (h 37) n what a') → X (d + 2) 40 47 [some (P 36), none, none, none, none, none] [I what] (CHP h a' m dr) Q := by
    intro what a' w0 w1 ha K
    have nb := nxc_b (n := n) (a := a') hb
    unfold pCm at K
    refine b40_47 (br_i (fun _ => c_next hn n40 (b40_58 ?_)) (fun q => absurd w0 q))
    rw [w32_of (x := nxc (h 37) n a' - 60) (by omega) (by omega)]
    refine z123 (br_i (fun q => b40_67 (br_i (fun x => absurd x (by decide)) (fun _ => ?_))) (fun q => br_i (fun q2 => b40_67 (br_i (fun _ => ?_) (fun x => absurd rfl x))) (fun q2 => b40_67 (br_i (fun x => absurd x (by decide)) (fun _ => ?_)))))
    · rw [if_neg (by omega)] at K; exact CK_f K _ _
    · rw [if_pos (by omega)] at K
      have an : a' < n := nxc_n (b := h 37) (n := n) (a := a') rfl (by omega)
      rw [CHP_2, CHP_u (a' := a' + 1) (w32_n (by omega))]
      unfold pNm at K
      generalize eg : nxc (h 37) n a' - 60 = sg at *
      refine c_digit hb hn n40 (fun c1 => b40_88 ?_) (fun c1 => b40_88 (br_i (fun x => absurd x (by decide)) (fun _ => ?_)))
      · have r1 := dgt_r c1
        rw [if_neg c1] at K
        refine br_i (fun _ => b40_98 (br_i (fun x => absurd x (by decide)) (fun _ => ?_))) (fun x => absurd r1.1 x)
        refine c_digit hb hn n40 (fun c2 => b40_110 ?_) (fun c2 => b40_110 (br_i (fun x => absurd x (by decide)) (fun _ => ?_)))
        · have r2 := dgt_r c2
          rw [if_neg c2] at K
          rw [w32_of (x := 10 * dgt (h 37) n (a' + 1) 9) (by omega) (by omega), w32_of (x := 10 * dgt (h 37) n (a' + 1) 9 + dgt (h 37) n (a' + 1 + 1) 9) (by omega) (by omega)]
          refine br_i (fun _ => b40_98 (br_i (fun x => absurd x (by decide)) (fun _ => ?_))) (fun x => absurd r2.1 x)
          refine c_digit hb hn n40 (fun c3 => b40_110 ?_) (fun c3 => b40_110 (br_i (fun x => absurd x (by decide)) (fun _ => ?_)))
          · have r3 := dgt_r c3
            rw [if_neg c3] at K
            rw [w32_of (x := 10 * (10 * dgt (h 37) n (a' + 1) 9 + dgt (h 37) n (a' + 1 + 1) 9)) (by omega) (by omega), w32_of (x := 10 * (10 * dgt (h 37) n (a' + 1) 9 + dgt (h 37) n (a' + 1 + 1) 9) + dgt (h 37) n (a' + 1 + 1 + 1) 9) (by omega) (by omega)]
            refine br_i (fun _ => b40_98 (br_i (fun _ => ?_) (fun x => absurd (by decide) x))) (fun x => absurd r3.1 x)
            exact W _ _ _ _ _ w0 w1 (by omega) (by omega) (by omega) (by omega) (by omega) K
          · rw [if_pos c3] at K
            exact W _ _ _ _ _ w0 w1 (by omega) (by omega) (by omega) (by omega) (by omega) K
        · rw [if_pos c2] at K
          exact W _ _ _ _ _ w0 w1 (by omega) (by omega) (by omega) (by omega) (by omega) K
      · rw [if_pos c1] at K
        exact CK_f K _ _
    · rw [if_neg (by omega)] at K; exact CK_f K _ _
  unfold pFa at K
  refine b40_0 (c_take (by decide) hn n40 (fun e1 => b40_6 (br_i (fun x => absurd x (by decide)) (fun _ => ?_))) (fun e1 => b40_6 (br_i (fun _ => ?_) (fun x => absurd rfl x))))
  · rw [if_pos e1] at K
    exact G 10 (a + 1) (by decide) (by decide) (by omega) K
  · rw [if_neg e1] at K
    refine c_take (by decide) hn n40 (fun e2 => b40_20 (br_i (fun x => absurd x (by decide)) (fun _ => ?_))) (fun e2 => b40_20 (br_i (fun _ => ?_) (fun x => absurd rfl x)))
    · rw [if_pos e2] at K
      exact G 11 (a + 1) (by decide) (by decide) (by omega) K
    · rw [if_neg e2] at K
      refine c_take (by decide) hn n40 (fun e3 => b40_34 (br_i (fun x => absurd x (by decide)) (fun _ => ?_))) (fun e3 => b40_34 (br_i (fun _ => b40_47 (br_i (fun x => absurd x (by decide)) (fun _ => ?_))) (fun x => absurd rfl x)))
      · rw [if_pos e3] at K
        refine c_digit hb hn n40 (fun c4 => b40_43 ?_) (fun c4 => b40_43 (b40_47 (br_i (fun x => absurd x (by decide)) (fun _ => ?_))))
        · have r4 := dgt_r c4
          rw [if_neg c4] at K
          exact G _ (a + 1 + 1) r4.1 (by omega) (by omega) K
        · rw [if_pos c4] at K; exact CK_f K _ _
      · rw [if_neg e3] at K; exact CK_f K _ _
/-- a method that reads expressions -/
def CRun (h : HP) (D meth : Nat) (dep : Int) (pp : Nat → PRS) : Prop := ∀ (Q : PV → HP → Prop) (a m : Nat) (dr : Nat → Int), m ≤ a → a ≤ 40 → CK Q h m dr (pp a) → X D meth 0 [some (P 36), some (I dep), none] [] (CHP h a m dr) Q
theorem CK_b {r : PRS} {Q' : PV → HP → Prop} (H1 : r.1 = true → Q' (I 1) (CHP h r.2.1 (m + r.2.2.1.length) (appR dr m r.2.2.1))) (H2 : r.1 = false → ∀ m' dr', Q' (I 0) (CHP h r.2.1 m' dr')) : CK Q' h m dr r := ⟨H1, H2⟩
theorem nT {c : Bool} (h : ¬ c = true) : c = false := by cases c <;> simp at h ⊢
theorem fT {c : Bool} (h : c = false) : ¬ c = true := by cases c <;> simp at h ⊢
set_option maxHeartbeats 4000000 in
theorem c_parts {D : Nat} {dep : Int} {pp : Nat → PRS} (hn : h 36 1 = n) (n40 : n ≤ 40) (gp : GP n pp) (Hp : CRun h (D + 1) 39 dep pp) : CRun h (D + 2) 38 dep (pPs pp (h 37) n) := by
  intro Q a m dr hm ha K
  have L : ∀ k i : Nat, i + k = 40 → ∀ r : PRS, FG n a r → CK Q h m dr (pLp 38 3145728 and pp (h 37) n k r) → r.1 = true → X (D + 2) 38 12 [some (P 36), some (I dep), some (I (i : Int))] [] (CHP h r.2.1 (m + r.2.2.1.length) (appR dr m r.2.2.1)) Q := by
    intro k
    induction k with
    | zero =>
      intro i hi r hr K c0
      exact b38_12 (br_i (fun _ => K.1 c0) (fun q => absurd (by omega) q))
    | succ k ih =>
      intro i hi r hr K c0
      have hr' := hr
      obtain ⟨x1, x2, x3, x4, x5, x6⟩ := hr'
      refine b38_12 (br_i (fun q => absurd q (by omega)) (fun _ => c_take (by decide) hn n40 (fun e => b38_24 (br_i (fun x => absurd x (by decide)) (fun _ => ?_))) (fun e => b38_24 (br_i (fun _ => ?_) (fun x => absurd rfl x)))))
      · have rn := nxc_n e (by decide)
        unfold pLp at K
        rw [if_pos e] at K
        refine Hp _ (r.2.1 + 1) _ _ (by omega) (by omega) (CK_b (fun c2 => b38_32 (br_i (fun _ => ?_) (fun x => absurd (by decide) x))) (fun c2 m' dr' => b38_32 (br_i (fun x => absurd rfl x) (fun _ => ?_))))
        · rw [if_pos c2] at K
          obtain ⟨y1, y2, y3, y4, y5, y6⟩ := gp _ c2
          refine c_write (by omega) (b38_43 ?_)
          rw [w32_n (by omega)]
          have FGr : FG n a (true, (pp (r.2.1 + 1)).2.1, r.2.2.1 ++ ((pp (r.2.1 + 1)).2.2.1 ++ [3145728]), fun E => and (r.2.2.2 E) ((pp (r.2.1 + 1)).2.2.2 E)) := FG_s gp op_and hr c2
          have := ih (i + 1) (by omega) _ FGr K rfl
          simp only [List.length_append, List.length_singleton] at this
          rw [appR_app, appR_app] at this
          rw [show m + (r.2.2.1.length + ((pp (r.2.1 + 1)).2.2.1.length + 1)) = m + r.2.2.1.length + (pp (r.2.1 + 1)).2.2.1.length + 1 by omega] at this
          exact this
        · rw [if_neg (fT c2)] at K
          exact CK_f K _ _
      · unfold pLp at K
        rw [if_neg e] at K
        exact K.1 c0
  unfold pPs at K
  refine b38_0 (Hp _ a m dr hm ha (CK_b (fun c => b38_5 (br_i (fun _ => ?_) (fun x => absurd (by decide) x))) (fun c m' dr' => b38_5 (br_i (fun x => absurd rfl x) (fun _ => ?_)))))
  · rw [if_pos c] at K
    exact L 40 0 rfl (pp a) (gp a c) K c
  · rw [if_neg (fT c)] at K
    exact CK_f K _ _
set_option maxHeartbeats 4000000 in
theorem c_terms {D : Nat} {dep : Int} {pp : Nat → PRS} (hn : h 36 1 = n) (n40 : n ≤ 40) (gp : GP n pp) (Hp : CRun h (D + 1) 38 dep pp) (Q : PV → HP → Prop) (a m : Nat) (dr : Nat → Int) (hm : m ≤ a) (ha : a ≤ 40) (K : CK Q h m dr (if (pp a).1 = true then pLp 124 4194304 or pp (h 37) n 40 (pp a) else pFl (pp a).2.1)) : X (D + 2) 37 0 [some (P 36), some (I dep), none] [] (CHP h a m dr) Q := by
  have L : ∀ k i : Nat, i + k = 40 → ∀ r : PRS, FG n a r → CK Q h m dr (pLp 124 4194304 or pp (h 37) n k r) → r.1 = true → X (D + 2) 37 12 [some (P 36), some (I dep), some (I (i : Int))] [] (CHP h r.2.1 (m + r.2.2.1.length) (appR dr m r.2.2.1)) Q := by
    intro k
    induction k with
    | zero =>
      intro i hi r hr K c0
      exact b37_12 (br_i (fun _ => K.1 c0) (fun q => absurd (by omega) q))
    | succ k ih =>
      intro i hi r hr K c0
      have hr' := hr
      obtain ⟨x1, x2, x3, x4, x5, x6⟩ := hr'
      refine b37_12 (br_i (fun q => absurd q (by omega)) (fun _ => c_take (by decide) hn n40 (fun e => b37_24 (br_i (fun x => absurd x (by decide)) (fun _ => ?_))) (fun e => b37_24 (br_i (fun _ => ?_) (fun x => absurd rfl x)))))
      · have rn := nxc_n e (by decide)
        unfold pLp at K
        rw [if_pos e] at K
        refine Hp _ (r.2.1 + 1) _ _ (by omega) (by omega) (CK_b (fun c2 => b37_32 (br_i (fun _ => ?_) (fun x => absurd (by decide) x))) (fun c2 m' dr' => b37_32 (br_i (fun x => absurd rfl x) (fun _ => ?_))))
        · rw [if_pos c2] at K
          obtain ⟨y1, y2, y3, y4, y5, y6⟩ := gp _ c2
          refine c_write (by omega) (b37_43 ?_)
          rw [w32_n (by omega)]
          have FGr : FG n a (true, (pp (r.2.1 + 1)).2.1, r.2.2.1 ++ ((pp (r.2.1 + 1)).2.2.1 ++ [4194304]), fun E => or (r.2.2.2 E) ((pp (r.2.1 + 1)).2.2.2 E)) := FG_s gp op_or hr c2
          have := ih (i + 1) (by omega) _ FGr K rfl
          simp only [List.length_append, List.length_singleton] at this
          rw [appR_app, appR_app] at this
          rw [show m + (r.2.2.1.length + ((pp (r.2.1 + 1)).2.2.1.length + 1)) = m + r.2.2.1.length + (pp (r.2.1 + 1)).2.2.1.length + 1 by omega] at this
          exact this
        · rw [if_neg (fT c2)] at K
          exact CK_f K _ _
      · unfold pLp at K
        rw [if_neg e] at K
        exact K.1 c0
  refine b37_0 (Hp _ a m dr hm ha (CK_b (fun c => b37_5 (br_i (fun _ => ?_) (fun x => absurd (by decide) x))) (fun c m' dr' => b37_5 (br_i (fun x => absurd rfl x) (fun _ => ?_)))))
  · rw [if_pos c] at K
    exact L 40 0 rfl (pp a) (gp a c) K c
  · rw [if_neg (fT c)] at K
    exact CK_f K _ _
end RD
