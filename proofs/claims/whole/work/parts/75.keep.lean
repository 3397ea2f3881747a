/-! heats and states kept in a row, and taken back -/
section P75
variable {d : Nat} {h g k S c : HP} {Q : PV → HP → Prop}
def pck (f : Nat → Int) : Nat → Int
  | 0 => 0
  | n + 1 => 4 * pck f n + f n
theorem pck_r {f : Nat → Int} (H : ∀ i, 0 ≤ f i ∧ f i ≤ 3) : ∀ n : Nat, 0 ≤ pck f n ∧ pck f n < ((4 ^ n : Nat) : Int)
  | 0 => by show (0 : Int) ≤ 0 ∧ (0 : Int) < ((4 ^ 0 : Nat) : Int); decide
  | n + 1 => by
    have x := pck_r H n
    have y := H n
    have e : (4 ^ (n + 1) : Nat) = 4 ^ n * 4 := Nat.pow_succ 4 n
    simp only [pck]
    omega
theorem pck_b {f : Nat → Int} (H : ∀ i, 0 ≤ f i ∧ f i ≤ 3) {n : Nat} (hn : n ≤ 12) : 0 ≤ pck f n ∧ pck f n < 16777216 := by
  have x := pck_r H n
  have y : 4 ^ n ≤ 4 ^ 12 := Nat.pow_le_pow_right (by decide) hn
  have z : (4 : Nat) ^ 12 = 16777216 := by decide
  omega
theorem pck_i {f f' : Nat → Int} (H : ∀ i, 0 ≤ f i ∧ f i ≤ 3) (H' : ∀ i, 0 ≤ f' i ∧ f' i ≤ 3) : ∀ n : Nat, (pck f n = pck f' n ↔ ∀ i, i < n → f i = f' i)
  | 0 => ⟨fun _ i hi => absurd hi (by omega), fun _ => rfl⟩
  | n + 1 => by
    have x := pck_i H H' n
    have y := H n
    have y' := H' n
    simp only [pck]
    constructor
    · intro e i hi
      have e1 : pck f n = pck f' n := by omega
      have e2 : f n = f' n := by omega
      by_cases q : i = n
      · subst q; exact e2
      · exact x.mp e1 i (by omega)
    · intro e
      rw [x.mpr (fun i hi => e i (by omega)), e n (by omega)]
theorem pck_o {v x : Int} (v0 : 0 ≤ v) (v1 : v < 16777216) (x0 : 0 ≤ x) (x3 : x ≤ 3) : bOr (bShl v 2) x = 4 * v + x := by
  obtain ⟨n, rfl⟩ := Int.eq_ofNat_of_zero_le v0
  obtain ⟨m, rfl⟩ := Int.eq_ofNat_of_zero_le x0
  have e : bShl (n : Int) 2 = ((n * 2 ^ 2 : Nat) : Int) := bShl_n (k := 2) (by omega) (by decide)
  rw [e, bOr_n (by omega) (by omega)]
  have e2 := Nat.two_pow_add_eq_or_of_lt (i := 2) (b := m) (by omega) n
  rw [Nat.mul_comm n (2 ^ 2), ← e2]
  omega
theorem pck_a {v : Int} (v0 : 0 ≤ v) (v1 : v < 2147483648) : bAnd v 3 = v % 4 := by
  obtain ⟨n, rfl⟩ := Int.eq_ofNat_of_zero_le v0
  have e : bAnd (n : Int) 3 = ((n &&& 3 : Nat) : Int) := bAnd_n (b := 3) (by omega)
  have e2 : n &&& 3 = n % 4 := Nat.and_two_pow_sub_one_eq_mod n 2
  rw [e, e2]
  omega
theorem pck_h {v : Int} (v0 : 0 ≤ v) (v1 : v < 2147483648) : bShr v 2 = v / 4 := by
  obtain ⟨n, rfl⟩ := Int.eq_ofNat_of_zero_le v0
  have e : bShr (n : Int) 2 = ((n / 2 ^ 2 : Nat) : Int) := bShr_n (k := 2) (by omega) (by decide)
  rw [e]
  omega
def fdv (x : Int) : Int := if x = -9 then 3 else x
theorem fdv_e {x : Int} (H : x = -9 ∨ (0 ≤ x ∧ x ≤ 3)) : bAnd x 3 = fdv x ∧ 0 ≤ fdv x ∧ fdv x ≤ 3 := by
  have : x = -9 ∨ x = 0 ∨ x = 1 ∨ x = 2 ∨ x = 3 := by omega
  rcases this with e | e | e | e | e <;> subst e <;> decide
/-- the states of heaters and flaps, two bits each -/
def fdC (g : HP) (i : Nat) : Int := if i < 4 then g 29 i else fdv (g 8 (i - 4))
def SOK (g : HP) : Prop := rgA (g 29) 0 3 ∧ flc (g 8) (g 9)
theorem fdC_r (H : SOK g) (i : Nat) : 0 ≤ fdC g i ∧ fdC g i ≤ 3 := by
  unfold fdC
  split
  · exact H.1 i
  · refine (fdv_e ?_).2
    rcases H.2 (i - 4) with x | x
    · exact Or.inl x.1
    · exact Or.inr x.1
/-- row r of what is kept is of S -/
def KR (g : HP) (r : Nat) (S : HP) : Prop := (∀ j, j < 8 → g 56 (9 * r + j) = S 7 j) ∧ g 56 (9 * r + 8) = pck (fdC S) 12
set_option maxHeartbeats 4000000 in
theorem c_keep {r : Nat} (r60 : r ≤ 60) (hS : SOK g) (H : ∀ g', (∀ q, q ≠ 56 → g' q = g q) → KR g' r g → (∀ j, (j < 9 * r ∨ 9 * r + 9 ≤ j) → g' 56 j = g 56 j) → Q (I 0) g') : X d 51 0 [some (P 52), some (I (r : Int)), none, none, none] [] g Q := by
  have er : w32 ((r : Int) * 9) = ((9 * r : Nat) : Int) := by rw [w32_of (by omega) (by omega)]; omega
  have fr := fdC_r hS
  have L2 : ∀ m i : Nat, i + m = 8 → X d 51 64 [some (P 52), some (I (r : Int)), some (I ((9 * r : Nat) : Int)), some (I (pck (fdC g) (4 + i))), some (I (i : Int))] [] (cpy g 7 56 0 (9 * r) 8) Q := by
    intro m
    induction m with
    | zero =>
      intro i hi
      have ei : i = 8 := by omega
      subst ei
      have e8 : w32 (((9 * r : Nat) : Int) + 8) = ((9 * r + 8 : Nat) : Int) := by rw [w32_of (by omega) (by omega)]; omega
      refine b51_64 (br_i (fun _ => ?_) (fun q => absurd (by omega) q))
      rw [e8]
      simp only [Int.toNat_natCast]
      refine an_i (by omega) (by omega) (H _ (fun q hq => by rw [up_p hq, cpy_p hq]) ⟨fun j hj => ?_, ?_⟩ (fun j hj => ?_))
      · rw [up_i (by omega)]
        unfold cpy
        rw [if_pos ⟨rfl, by omega, by omega⟩, show 0 + (9 * r + j - 9 * r) = j by omega]
      · rw [up_s]
      · rw [up_i (by omega)]
        unfold cpy
        rw [if_neg (by omega)]
    | succ m ih =>
      intro i hi
      have pr := pck_b fr (n := 4 + i) (by omega)
      have fv : (cpy g 7 56 0 (9 * r) 8) 8 i = g 8 i := by rw [cpy_p (by decide)]
      have fe : bAnd (g 8 i) 3 = fdv (g 8 i) ∧ 0 ≤ fdv (g 8 i) ∧ fdv (g 8 i) ≤ 3 := fdv_e (by rcases hS.2 i with x | x; exact Or.inl x.1; exact Or.inr x.1)
      refine b51_64 (br_i (fun q => absurd q (by omega)) (fun _ => an_i (by omega) (by omega) ?_))
      simp only [Int.toNat_natCast]
      rw [fv, fe.1, pck_o pr.1 pr.2 fe.2.1 fe.2.2, w32_n (by omega)]
      have e : fdC g (4 + i) = fdv (g 8 i) := by
        unfold fdC
        rw [if_neg (by omega), show 4 + i - 4 = i by omega]
      rw [← e]
      exact ih (i + 1) (by omega)
  have L1 : ∀ m i : Nat, i + m = 4 → X d 51 31 [some (P 52), some (I (r : Int)), some (I ((9 * r : Nat) : Int)), some (I (pck (fdC g) i)), some (I (i : Int))] [] (cpy g 7 56 0 (9 * r) 8) Q := by
    intro m
    induction m with
    | zero =>
      intro i hi
      have ei : i = 4 := by omega
      subst ei
      exact b51_31 (br_i (fun _ => L2 8 0 rfl) (fun q => absurd (by omega) q))
    | succ m ih =>
      intro i hi
      have pr := pck_b fr (n := i) (by omega)
      have fv : (cpy g 7 56 0 (9 * r) 8) 29 i = g 29 i := by rw [cpy_p (by decide)]
      have fe := hS.1 i
      refine b51_31 (br_i (fun q => absurd q (by omega)) (fun _ => an_i (by omega) (by omega) ?_))
      simp only [Int.toNat_natCast]
      rw [fv, pck_o pr.1 pr.2 fe.1 fe.2, w32_n (by omega)]
      have e : fdC g i = g 29 i := by
        unfold fdC
        rw [if_pos (by omega)]
      rw [← e]
      exact ih (i + 1) (by omega)
  refine b51_0 ?_
  rw [er]
  simp only [Int.toNat_natCast]
  exact ⟨⟨by omega, by omega, by omega, by omega, by omega⟩, L1 4 0 rfl⟩
/-- two heaps between which states may be taken back -/
def CMP (g S : HP) : Prop := (∀ j, 8 ≤ j → g 7 j = S 7 j ∧ g 8 j = S 8 j ∧ g 9 j = S 9 j) ∧ (∀ j, 4 ≤ j → g 29 j = S 29 j) ∧ (∀ p, (g 8 p = -9 ↔ S 8 p = -9)) ∧ (∀ p, S 8 p = 3 → g 9 p = S 9 p)
theorem fc3 {v : Int} (v0 : 0 ≤ v) (v2 : v ≤ 2) : bAnd (bOr 3 (bShl v 2)) 3 = 3 ∧ bAnd (bShr (bOr 3 (bShl v 2)) 2) 3 = v := by
  have : v = 0 ∨ v = 1 ∨ v = 2 := by omega
  rcases this with e | e | e <;> subst e <;> decide
/-- flaps from p on, and heaters from i on, taken back -/
def RS (g S g' : HP) (p i : Nat) : Prop := (∀ q, q ≠ 7 → q ≠ 8 → q ≠ 9 → q ≠ 29 → g' q = g q) ∧ g' 7 = S 7 ∧ (∀ j, p ≤ j → g' 8 j = S 8 j ∧ g' 9 j = S 9 j) ∧ (∀ j, j < p → g' 8 j = g 8 j ∧ g' 9 j = g 9 j) ∧ (∀ j, i ≤ j → g' 29 j = S 29 j)
set_option maxHeartbeats 4000000 in
theorem c_rsto {r : Nat} (r60 : r ≤ 60) (hg : SOK g) (hS : SOK S) (hC : CMP g S) (hK : KR g r S) (H : ∀ g', (∀ q, q ≠ 7 → q ≠ 8 → q ≠ 9 → q ≠ 29 → g' q = g q) → g' 7 = S 7 → g' 8 = S 8 → g' 9 = S 9 → g' 29 = S 29 → Q (I 0) g') : X (d + 1) 52 0 [some (P 52), some (I (r : Int)), none, none, none] [] g Q := by
  have er : w32 ((r : Int) * 9) = ((9 * r : Nat) : Int) := by rw [w32_of (by omega) (by omega)]; omega
  have e8 : w32 (((9 * r : Nat) : Int) + 8) = ((9 * r + 8 : Nat) : Int) := by rw [w32_of (by omega) (by omega)]; omega
  have fr := fdC_r hS
  have L2 : ∀ i : Nat, i ≤ 4 → ∀ g', RS g S g' 0 i → X (d + 1) 52 103 [some (P 52), some (I (r : Int)), some (I ((9 * r : Nat) : Int)), some (I (pck (fdC S) i)), some (I ((i : Int) - 1))] [] g' Q := by
    intro i
    induction i with
    | zero =>
      intro _ g' hr
      refine b52_103 (br_i (fun _ => H g' hr.1 hr.2.1 ?_ ?_ ?_) (fun q => absurd (by omega) q))
      · funext j; exact (hr.2.2.1 j (by omega)).1
      · funext j; exact (hr.2.2.1 j (by omega)).2
      · funext j; exact hr.2.2.2.2 j (by omega)
    | succ i ih =>
      intro hi g' hr
      have pr := pck_b fr (n := i + 1) (by omega)
      have pr2 := pck_b fr (n := i) (by omega)
      have fi := fr i
      have ep : pck (fdC S) (i + 1) = 4 * pck (fdC S) i + fdC S i := rfl
      have e1 : w32 (((i + 1 : Nat) : Int) - 1 + (-1)) = (i : Int) - 1 := by rw [w32_of (by omega) (by omega)]; omega
      have e2 : (((i + 1 : Nat) : Int) - 1).toNat = i := by omega
      refine b52_103 (br_i (fun q => absurd q (by omega)) (fun _ => an_i (by omega) (by omega) ?_))
      rw [e1, e2, pck_a pr.1 (by omega), pck_h pr.1 (by omega)]
      have e3 : pck (fdC S) (i + 1) % 4 = fdC S i := by omega
      have e4 : pck (fdC S) (i + 1) / 4 = pck (fdC S) i := by omega
      have e5 : fdC S i = S 29 i := by unfold fdC; rw [if_pos (by omega)]
      rw [e3, e4, e5]
      refine ih (by omega) _ ⟨fun q h1 h2 h3 h4 => by rw [up_p h4]; exact hr.1 q h1 h2 h3 h4, ?_, ?_, ?_, fun j hj => ?_⟩
      · rw [up_p (by decide)]; exact hr.2.1
      · rw [up_p (by decide), up_p (by decide)]; exact hr.2.2.1
      · rw [up_p (by decide), up_p (by decide)]; exact hr.2.2.2.1
      · rw [up_st]
        by_cases ej : j = i
        · subst ej; exact st1_s
        · rw [st1_n ej]; exact hr.2.2.2.2 j (by omega)
  have L1 : ∀ p : Nat, p ≤ 8 → ∀ g', RS g S g' p 4 → X (d + 1) 52 40 [some (P 52), some (I (r : Int)), some (I ((9 * r : Nat) : Int)), some (I (pck (fdC S) (4 + p))), some (I ((p : Int) - 1))] [] g' Q := by
    intro p
    induction p with
    | zero =>
      intro _ g' hr
      exact b52_40 (br_i (fun _ => L2 4 (by decide) g' hr) (fun q => absurd (by omega) q))
    | succ p ih =>
      intro hp g' hr
      have pr := pck_b fr (n := 4 + p + 1) (by omega)
      have fi := fr (4 + p)
      have ep : pck (fdC S) (4 + p + 1) = 4 * pck (fdC S) (4 + p) + fdC S (4 + p) := rfl
      have ee : pck (fdC S) (4 + (p + 1)) = pck (fdC S) (4 + p + 1) := rfl
      have e1 : w32 (((p + 1 : Nat) : Int) - 1 + (-1)) = (p : Int) - 1 := by rw [w32_of (by omega) (by omega)]; omega
      have e2 : (((p + 1 : Nat) : Int) - 1).toNat = p := by omega
      have e3 : pck (fdC S) (4 + p + 1) % 4 = fdC S (4 + p) := by omega
      have e4 : pck (fdC S) (4 + p + 1) / 4 = pck (fdC S) (4 + p) := by omega
      have e5 : fdC S (4 + p) = fdv (S 8 p) := by
        unfold fdC
        rw [if_neg (by omega), show 4 + p - 4 = p by omega]
      have old := hr.2.2.2.1 p (by omega)
      have cp := hC.2.2.1 p
      have c9 := hC.2.2.2 p
      have s8 := hS.2 p
      have g8 := hg.2 p
      have ei : ((p + 1 : Nat) : Int) - 1 = (p : Int) := by omega
      have N : ∀ g2, RS g S g2 p 4 → X (d + 1) 52 90 [some (P 52), some (I (r : Int)), some (I ((9 * r : Nat) : Int)), some (I (pck (fdC S) (4 + (p + 1)))), some (I (p : Int))] [] g2 Q := by
        intro g2 h2
        refine b52_90 ?_
        rw [ee, pck_h pr.1 (by omega), e4, show w32 ((p : Int) + (-1)) = (p : Int) - 1 from by rw [w32_of (by omega) (by omega)]; omega]
        exact ih (by omega) g2 h2
      rw [ei]
      refine b52_40 (br_i (fun q => absurd q (by omega)) (fun _ => an_i (by omega) (by omega) ?_))
      simp only [Int.toNat_natCast]
      rw [old.1]
      refine br_i (fun q => N g' ⟨hr.1, hr.2.1, fun j hj => ?_, fun j hj => hr.2.2.2.1 j (by omega), hr.2.2.2.2⟩) (fun q => ?_)
      · by_cases ej : j = p
        · subst ej
          have q' := cp.mp q
          rw [old.1, old.2, q, q']
          exact ⟨rfl, by omega⟩
        · exact hr.2.2.1 j (by omega)
      · have q' : ¬ S 8 p = -9 := fun x => q (cp.mpr x)
        have ef : fdv (S 8 p) = S 8 p := by unfold fdv; rw [if_neg q']
        rw [ee, pck_a pr.1 (by omega), e3, e5, ef]
        have SET : ∀ w : Int, bAnd w 3 = S 8 p → bAnd (bShr w 2) 3 = S 9 p → X d 23 0 [some (P 2), some (I (p : Int)), some (I w)] [] g' (fun _ h' => X (d + 1) 52 90 [some (P 52), some (I (r : Int)), some (I ((9 * r : Nat) : Int)), some (I (pck (fdC S) (4 + p + 1))), some (I (p : Int))] [] h' Q) := by
          intro w w1 w2
          refine z23 (an_i (by omega) (by omega) (an_i (by omega) (by omega) ?_))
          rw [w1, w2]
          simp only [Int.toNat_natCast]
          refine N _ ⟨fun q h1 h2 h3 h4 => by rw [up_p h3, up_p h2]; exact hr.1 q h1 h2 h3 h4, ?_, fun j hj => ?_, fun j hj => ?_, ?_⟩
          · rw [up_p (by decide), up_p (by decide)]; exact hr.2.1
          · rw [up_p (p := 9) (q := 8) (by decide), up_st, up_st, up_p (p := 8) (q := 9) (by decide)]
            by_cases ej : j = p
            · subst ej; exact ⟨st1_s, st1_s⟩
            · rw [st1_n ej, st1_n ej]; exact hr.2.2.1 j (by omega)
          · rw [up_p (p := 9) (q := 8) (by decide), up_st, up_st, up_p (p := 8) (q := 9) (by decide), st1_n (by omega), st1_n (by omega)]
            exact hr.2.2.2.1 j (by omega)
          · rw [up_p (by decide), up_p (by decide)]; exact hr.2.2.2.2
        refine z22 (br_i (fun q3 => b52_87 ?_) (fun q3 => an_i (by omega) (by omega) (b52_87 ?_)))
        · have fv := fc_v (v := S 8 p) (by omega) (by omega)
          exact SET _ fv.1 (by rw [fv.2]; omega)
        · have q3' := Classical.not_not.mp q3
          simp only [Int.toNat_natCast]
          rw [old.2, c9 q3', q3']
          have fv := fc3 (v := S 9 p) (by omega) (by omega)
          exact SET _ (by rw [fv.1, q3']) fv.2
  refine b52_0 ?_
  rw [er, e8]
  simp only [Int.toNat_natCast]
  rw [hK.2]
  refine ⟨⟨by omega, by omega, by omega, by omega, by omega⟩, an_i (by omega) (by omega) (L1 8 (by decide) _ ⟨fun q h1 h2 h3 h4 => cpy_p h1, ?_, fun j hj => ?_, fun j hj => ?_, fun j hj => ?_⟩)⟩
  · funext j
    unfold cpy
    by_cases q : j < 8
    · rw [if_pos ⟨rfl, by omega, by omega⟩]
      have := hK.1 j q
      simpa using this
    · rw [if_neg (by omega)]; exact (hC.1 j (by omega)).1
  · rw [cpy_p (by decide), cpy_p (by decide)]; exact (hC.1 j hj).2
  · rw [cpy_p (by decide), cpy_p (by decide)]; exact ⟨rfl, rfl⟩
  · rw [cpy_p (by decide)]; exact hC.2.1 j hj
/-- states that come out of h by ticks -/
def STB (h S : HP) : Prop := (∀ j, 8 ≤ j → S 7 j = h 7 j ∧ S 8 j = h 8 j ∧ S 9 j = h 9 j) ∧ (∀ j, 4 ≤ j → S 29 j = h 29 j) ∧ (∀ p, (S 8 p = -9 ↔ h 8 p = -9)) ∧ (∀ p, (S 8 p = 3 ↔ h 8 p = 3) ∧ (h 8 p = 3 → S 9 p = h 9 p))
theorem STB_r (h : HP) : STB h h := ⟨fun _ _ => ⟨rfl, rfl, rfl⟩, fun _ _ => rfl, fun _ => Iff.rfl, fun _ => ⟨Iff.rfl, fun _ => rfl⟩⟩
theorem STB_c (h1 : STB h g) (h2 : STB h S) : CMP g S := by
  refine ⟨fun j hj => ?_, fun j hj => ?_, fun p => ?_, fun p hp => ?_⟩
  · have a := h1.1 j hj
    have b := h2.1 j hj
    rw [a.1, a.2.1, a.2.2, b.1, b.2.1, b.2.2]
    exact ⟨rfl, rfl, rfl⟩
  · rw [h1.2.1 j hj, h2.2.1 j hj]
  · rw [h1.2.2.1 p, h2.2.2.1 p]
  · have x := (h2.2.2.2 p).1.mp hp
    rw [(h1.2.2.2 p).2 x, (h2.2.2.2 p).2 x]
theorem STB_a (h1 : STB h S) (ha : AG g S) : STB h g := by
  have e7 := AG_q ha (q := 7) (by decide)
  have e8 := AG_q ha (q := 8) (by decide)
  have e9 := AG_q ha (q := 9) (by decide)
  have e29 := AG_q ha (q := 29) (by decide)
  unfold STB at *
  rw [e7, e8, e9, e29]
  exact h1
theorem SOK_O {B : Int} (hO : OKC c B) : SOK c := ⟨hO.2.2.1.2.2.1, hO.2.1.2.2.2.1⟩
theorem STB_n {B : Int} {hr : Nat} (hO : OKC c B) (h1 : STB h c) : STB h (nx c hr) := by
  obtain ⟨⟨⟨r56, r57, r58, r59, r60, r61, r62, r63, r64, r65⟩, ⟨r78, r79, r80⟩, ⟨r84, r85, r86, r87⟩, ⟨r90, r91, r92, r93, r94, r95, r96, r97⟩, ⟨r99, r101, r103, r104, r105⟩⟩, ⟨r76, r77, r114, r81, r88, r66, r67⟩, -, r120, r122⟩ := id hO
  have fl : ∀ p : Nat, (nx c hr 8 p = c 8 p ∧ nx c hr 9 p = c 9 p) ∨ (p < 8 ∧ ¬ c 8 p = 3 ∧ 0 ≤ c 8 p ∧ 0 ≤ nx c hr 8 p ∧ nx c hr 8 p ≤ 2) := by
    intro p
    have e8 : nx c hr 8 p = hF c (c 8) hr (c 2 0).toNat p := rfl
    have e9 : nx c hr 9 p = hF c (c 9) hr (c 2 0).toNat p := rfl
    rw [e8, e9]
    unfold hF
    by_cases q : p < (c 2 0).toNat ∧ ¬ c 8 p = 3 ∧ 0 < c 40 (4 + p) ∧ 0 ≤ TLD c hr (4 + p)
    · have t := TLD_r hO (hr := hr) (t := 4 + p) (by omega) q.2.2.1
      have mt : mostT (4 + p) = 2 := by unfold mostT; rw [if_neg (by omega)]
      rw [mt] at t
      have ow := r122 p (by omega) q.2.2.1
      right
      rw [if_pos q]
      exact ⟨by omega, q.2.1, ow.2, q.2.2.2, by omega⟩
    · left
      rw [if_neg q, if_neg q]
      exact ⟨rfl, rfl⟩
  refine ⟨fun j hj => ⟨?_, ?_⟩, fun j hj => ?_, fun p => ?_, fun p => ⟨?_, fun q => ?_⟩⟩
  · show h7S c hr (c 2 0).toNat j = h 7 j
    unfold h7S
    rw [if_neg (by omega)]; exact (h1.1 j hj).1
  · rcases fl j with x | x
    · rw [x.1, x.2]; exact (h1.1 j hj).2
    · omega
  · show hS c hr (c 26 2).toNat j = h 29 j
    rw [hS_i (by omega)]; exact h1.2.1 j hj
  · have y := h1.2.2.1 p
    rcases fl p with x | x
    · rw [x.1]; exact y
    · constructor
      · intro e; omega
      · intro e; have := y.mpr e; omega
  · have y := (h1.2.2.2 p).1
    rcases fl p with x | x
    · rw [x.1]; exact y
    · constructor
      · intro e; omega
      · intro e; exact absurd (y.mpr e) x.2.1
  · have y := h1.2.2.2 p
    rcases fl p with x | x
    · rw [x.2]; exact y.2 q
    · exact absurd (y.1.mpr q) x.2.1
end P75
