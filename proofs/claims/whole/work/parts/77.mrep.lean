/-! repeat: the model -/
section P77
variable {d : Nat} {h g k k0 S S' : HP} {Q : PV → HP → Prop} {s : Nat}
def kp (S : HP) (u : Nat → Int) (j : Nat) : Int := if j < 4 then S 29 j else if j < 12 then S 7 (j - 4) else if j < 20 then S 8 (j - 12) else if S 8 (j - 20) < 0 then u (j - 20) else S 9 (j - 20)
theorem kp_1 {u : Nat → Int} {j : Nat} (hj : j < 4) : kp S u j = S 29 j := by unfold kp; rw [if_pos hj]
theorem kp_2 {u : Nat → Int} {j : Nat} (hj : j < 8) : kp S u (4 + j) = S 7 j := by
  unfold kp
  rw [if_neg (by omega), if_pos (by omega), show 4 + j - 4 = j by omega]
theorem kp_3 {u : Nat → Int} {j : Nat} (hj : j < 8) : kp S u (12 + j) = S 8 j := by
  unfold kp
  rw [if_neg (by omega), if_neg (by omega), if_pos (by omega), show 12 + j - 12 = j by omega]
theorem kp_4 {u : Nat → Int} {j : Nat} : kp S u (20 + j) = if S 8 j < 0 then u j else S 9 j := by
  unfold kp
  rw [if_neg (by omega), if_neg (by omega), if_neg (by omega), show 20 + j - 20 = j by omega]
theorem SAM_kp {u : Nat → Int} (a : STB h S) (a' : STB h S') (o : SOK S) (o' : SOK S') : (∀ j, j < 28 → kp S u j = kp S' u j) ↔ ((∀ j, j < 8 → S 7 j = S' 7 j) ∧ pck (fdC S) 12 = pck (fdC S') 12) := by
  rw [pck_i (fdC_r o) (fdC_r o') 12]
  constructor
  · intro H
    refine ⟨fun j hj => ?_, fun i hi => ?_⟩
    · have := H (4 + j) (by omega)
      rw [kp_2 hj, kp_2 hj] at this
      exact this
    · unfold fdC
      by_cases q : i < 4
      · rw [if_pos q, if_pos q]
        have := H i (by omega)
        rw [kp_1 q, kp_1 q] at this
        exact this
      · rw [if_neg q, if_neg q]
        have := H (12 + (i - 4)) (by omega)
        rw [kp_3 (by omega), kp_3 (by omega)] at this
        rw [this]
  · intro ⟨H7, HF⟩
    have H29 : ∀ i, i < 4 → S 29 i = S' 29 i := fun i hi => by
      have := HF i (by omega)
      unfold fdC at this
      rw [if_pos hi, if_pos hi] at this
      exact this
    have H8 : ∀ p, p < 8 → S 8 p = S' 8 p := fun p hp => by
      have := HF (4 + p) (by omega)
      have nf : ∀ T : HP, fdC T (4 + p) = fdv (T 8 p) := fun T => by unfold fdC; rw [if_neg (by omega), show 4 + p - 4 = p by omega]
      rw [nf, nf] at this
      unfold fdv at this
      have x := a.2.2.1 p
      have x' := a'.2.2.1 p
      by_cases q : S 8 p = -9
      · rw [q, x'.mpr (x.mp q)]
      · have q' : ¬ S' 8 p = -9 := fun y => q (x.mpr (x'.mp y))
        rw [if_neg q, if_neg q'] at this
        exact this
    have H9 : ∀ p, p < 8 → ¬ S 8 p < 0 → S 9 p = S' 9 p := fun p hp hn => by
      have e := H8 p hp
      have y := o.2 p
      have y' := o'.2 p
      by_cases q : S 8 p = 3
      · have z := (a.2.2.2 p).1.mp q
        rw [(a.2.2.2 p).2 z, (a'.2.2.2 p).2 z]
      · omega
    intro j hj
    by_cases c1 : j < 4
    · rw [kp_1 c1, kp_1 c1]; exact H29 j c1
    by_cases c2 : j < 12
    · have e : j = 4 + (j - 4) := by omega
      rw [e, kp_2 (by omega), kp_2 (by omega)]; exact H7 _ (by omega)
    by_cases c3 : j < 20
    · have e : j = 12 + (j - 12) := by omega
      rw [e, kp_3 (by omega), kp_3 (by omega)]; exact H8 _ (by omega)
    · have e : j = 20 + (j - 20) := by omega
      rw [e, kp_4, kp_4, H8 _ (by omega)]
      by_cases q : S' 8 (j - 20) < 0
      · rw [if_pos q, if_pos q]
      · rw [if_neg q, if_neg q]
        exact H9 _ (by omega) (by rw [H8 _ (by omega)]; exact q)
/-- what the model has put by -/
def SV (h k0 k : HP) : Prop := (∀ j, j < 28 → k 114 j = kp h (k0 76) j) ∧ (k 69 74 = k0 69 32 ∧ k 69 75 = k0 69 33 ∧ k 69 76 = k0 69 34 ∧ k 69 77 = k0 69 35)
/-- the model on trial, its states those of S -/
def MV (h k0 k S : HP) (B : Int) : Prop := TKR S k B ∧ STB h S ∧ ((∀ q, q ≠ 69 → q ≠ 73 → q ≠ 95 → q ≠ 75 → q ≠ 76 → ¬ (105 ≤ q ∧ q ≤ 114) → k q = k0 q) ∧ (∀ x, ¬ (32 ≤ x ∧ x ≤ 35) → ¬ (49 ≤ x ∧ x ≤ 53) → ¬ (55 ≤ x ∧ x ≤ 62) → ¬ (70 ≤ x ∧ x ≤ 71) → ¬ (74 ≤ x ∧ x ≤ 77) → k 69 x = k0 69 x)) ∧ (∀ p, h 8 p = -9 → k 76 p = k0 76 p)
theorem MV_76 {B : Int} (hm : MV h k0 k S B) (p : Nat) : k 76 p = if S 8 p < 0 then k0 76 p else S 9 p := by
  have x := hm.2.1.2.2.1 p
  rcases hm.1.2.2.2.2.2.2.2.2.1 p with y | y
  · rw [if_pos (by omega)]
    exact hm.2.2.2 p (x.mp y.1)
  · rw [if_neg (by omega)]; exact y.2.2.2
theorem m_now {B : Int} {j : Nat} (hj : j < 28) (hm : MV h k0 k S B) (H : Q (I (kp S (k0 76) j)) k) : X d 195 0 [some (P 69), some (I (j : Int))] [] k Q := by
  have e73 : k 73 = S 7 := hm.1.2.1.2.2.2.1
  have e75 : k 75 = S 8 := hm.1.2.1.2.2.2.2.2
  have e95 : k 95 = S 29 := hm.1.2.2.2.2.1.2.2.2.2
  refine b195_0 (br_i (fun q => br_i (fun q2 => br_i (fun q3 => ?_) (fun q3 => ?_)) (fun q2 => ?_)) (fun q => ?_))
  · have e : w32 (w32 ((j : Int) - 4) - 16) = ((j - 20 : Nat) : Int) := by rw [w32_of (x := (j : Int) - 4) (by omega) (by omega), w32_of (by omega) (by omega)]; omega
    have ej : j = 20 + (j - 20) := by omega
    rw [ej, kp_4, ← MV_76 hm] at H
    rw [e]
    simp only [Int.toNat_natCast]
    exact an_i (by omega) (by omega) H
  · have e : w32 (w32 ((j : Int) - 4) - 8) = ((j - 12 : Nat) : Int) := by rw [w32_of (x := (j : Int) - 4) (by omega) (by omega), w32_of (by omega) (by omega)]; omega
    have ej : j = 12 + (j - 12) := by omega
    rw [ej, kp_3 (by omega), ← e75] at H
    rw [e]
    simp only [Int.toNat_natCast]
    exact an_i (by omega) (by omega) H
  · have e : w32 ((j : Int) - 4) = ((j - 4 : Nat) : Int) := by rw [w32_of (by omega) (by omega)]; omega
    have ej : j = 4 + (j - 4) := by omega
    rw [ej, kp_2 (by omega), ← e73] at H
    rw [e]
    simp only [Int.toNat_natCast]
    exact an_i (by omega) (by omega) H
  · rw [kp_1 (by omega), ← e95] at H
    refine an_i (by omega) (by omega) ?_
    simp only [Int.toNat_natCast]
    exact H
theorem MV_k {B : Int} {k' : HP} (hm : MV h k0 k S B) (f : ∀ q, q ≠ 69 → ¬ (105 ≤ q ∧ q ≤ 114) → k' q = k q) (f2 : ∀ x, ¬ (70 ≤ x ∧ x ≤ 77) → k' 69 x = k 69 x) (f3 : ∀ x, x = 72 ∨ x = 73 → k' 69 x = k 69 x) : MV h k0 k' S B := by
  refine ⟨TKR_k hm.1 (fun q hq => f q (by omega) (by omega)) (fun x hx => f2 x (by omega)), hm.2.1, ⟨fun q h1 h2 h3 h4 h5 h6 => by rw [f q h1 h6]; exact hm.2.2.1.1 q h1 h2 h3 h4 h5 h6, fun x h1 h2 h3 h4 h5 => ?_⟩, ?_⟩
  · by_cases q : x = 72 ∨ x = 73
    · rw [f3 x q]; exact hm.2.2.1.2 x h1 h2 h3 h4 h5
    · rw [f2 x (by omega)]; exact hm.2.2.1.2 x h1 h2 h3 h4 h5
  · rw [f 76 (by decide) (by decide)]; exact hm.2.2.2
set_option maxHeartbeats 4000000 in
theorem m_save {B : Int} (hm : MV h k0 k0 h B) (H : ∀ k, MV h k0 k h B → SV h k0 k → (∀ x, ¬ (74 ≤ x ∧ x ≤ 77) → k 69 x = k0 69 x) → Q (I 0) k) : X (d + 1) 196 0 [some (P 69), none] [] k0 Q := by
  have L : ∀ m i : Nat, i + m = 28 → ∀ k, (∀ q, q ≠ 114 → k q = k0 q) → (∀ j, j < i → k 114 j = kp h (k0 76) j) → X (d + 1) 196 2 [some (P 69), some (I (i : Int))] [] k Q := by
    intro m
    induction m with
    | zero =>
      intro i hi k f e
      have ei : i = 28 := by omega
      subst ei
      refine b196_2 (br_i (fun _ => H _ (MV_k hm (fun q h1 h2 => ?_) (fun x hx => ?_) (fun x hx => ?_)) ⟨fun j hj => ?_, ?_, ?_, ?_, ?_⟩ (fun x hx => ?_)) (fun q => absurd (by omega) q))
      · rw [up_p h1, up_p h1, up_p h1, up_p h1, f q (by omega)]
      · rw [up_i (by omega), up_i (by omega), up_i (by omega), up_i (by omega), f 69 (by decide)]
      · rw [up_i (by omega), up_i (by omega), up_i (by omega), up_i (by omega), f 69 (by decide)]
      · rw [up_p (by decide), up_p (by decide), up_p (by decide), up_p (by decide)]; exact e j hj
      · rw [up_i (by decide), up_i (by decide), up_i (by decide), up_s, f 69 (by decide)]
      · rw [up_i (by decide), up_i (by decide), up_s, f 69 (by decide)]
      · rw [up_i (by decide), up_s, f 69 (by decide)]
      · rw [up_s, f 69 (by decide)]
      · rw [up_i (by omega), up_i (by omega), up_i (by omega), up_i (by omega), f 69 (by decide)]
    | succ m ih =>
      intro i hi k f e
      have hk : MV h k0 k h B := MV_k hm (fun q h1 h2 => f q (by omega)) (fun x _ => by rw [f 69 (by decide)]) (fun x _ => by rw [f 69 (by decide)])
      refine b196_2 (br_i (fun q => absurd q (by omega)) (fun _ => m_now (by omega) hk (b196_18 (an_i (by omega) (by omega) ?_))))
      rw [w32_n (by omega)]
      simp only [Int.toNat_natCast]
      refine ih (i + 1) (by omega) _ (fun q hq => by rw [up_p hq]; exact f q hq) (fun j hj => ?_)
      rw [up_st]
      by_cases ej : j = i
      · subst ej; exact st1_s
      · rw [st1_n ej]; exact e j (by omega)
  exact b196_0 (L 28 0 rfl k0 (fun _ _ => rfl) (fun j hj => absurd hj (by omega)))
/-- while it puts back -/
def PB (k0 k k' : HP) (i j : Nat) : Prop := (∀ q, q ≠ 95 → q ≠ 73 → q ≠ 75 → q ≠ 76 → k' q = k q) ∧ (∀ x, (x < i ∨ 4 ≤ x) → k' 95 x = k0 95 x) ∧ (∀ x, (x < j ∨ 8 ≤ x) → k' 73 x = k0 73 x ∧ k' 75 x = k0 75 x ∧ k' 76 x = k0 76 x)
set_option maxHeartbeats 4000000 in
theorem m_putb {B B0 : Int} (h0 : TKR h k0 B0) (hm : MV h k0 k S B) (hv : SV h k0 k) (H : ∀ k', (∀ q, q ≠ 69 → q ≠ 95 → q ≠ 73 → q ≠ 75 → q ≠ 76 → k' q = k q) → (k' 95 = k0 95 ∧ k' 73 = k0 73 ∧ k' 75 = k0 75 ∧ k' 76 = k0 76) → (∀ x, ¬ (32 ≤ x ∧ x ≤ 35) → k' 69 x = k 69 x) → (k' 69 32 = k0 69 32 ∧ k' 69 33 = k0 69 33 ∧ k' 69 34 = k0 69 34 ∧ k' 69 35 = k0 69 35) → Q (I 0) k') : X d 197 0 [some (P 69), none] [] k Q := by
  have z73 : k0 73 = h 7 := h0.2.1.2.2.2.1
  have z75 : k0 75 = h 8 := h0.2.1.2.2.2.2.2
  have z95 : k0 95 = h 29 := h0.2.2.2.2.1.2.2.2.2
  have z76 := h0.2.2.2.2.2.2.2.2.1
  have e73 : k 73 = S 7 := hm.1.2.1.2.2.2.1
  have e75 : k 75 = S 8 := hm.1.2.1.2.2.2.2.2
  have e95 : k 95 = S 29 := hm.1.2.2.2.2.1.2.2.2.2
  have w76 : ∀ p, (if h 8 p < 0 then k0 76 p else h 9 p) = k0 76 p := fun p => by
    by_cases q : h 8 p < 0
    · rw [if_pos q]
    · rw [if_neg q]
      have := z76 p
      omega
  have L2 : ∀ m i : Nat, i + m = 8 → ∀ k', PB k0 k k' 4 i → X d 197 27 [some (P 69), some (I (i : Int))] [] k' Q := by
    intro m
    induction m with
    | zero =>
      intro i hi k' hp
      have ei : i = 8 := by omega
      subst ei
      have e69 : k' 69 = k 69 := hp.1 69 (by decide) (by decide) (by decide) (by decide)
      refine b197_27 (br_i (fun _ => H _ (fun q h1 h2 h3 h4 h5 => ?_) ⟨?_, ?_, ?_, ?_⟩ (fun x hx => ?_) ⟨?_, ?_, ?_, ?_⟩) (fun q => absurd (by omega) q))
      · rw [up_p h1, up_p h1, up_p h1, up_p h1]; exact hp.1 q h2 h3 h4 h5
      · rw [up_p (by decide), up_p (by decide), up_p (by decide), up_p (by decide)]; funext x; exact hp.2.1 x (by omega)
      · rw [up_p (by decide), up_p (by decide), up_p (by decide), up_p (by decide)]; funext x; exact (hp.2.2 x (by omega)).1
      · rw [up_p (by decide), up_p (by decide), up_p (by decide), up_p (by decide)]; funext x; exact (hp.2.2 x (by omega)).2.1
      · rw [up_p (by decide), up_p (by decide), up_p (by decide), up_p (by decide)]; funext x; exact (hp.2.2 x (by omega)).2.2
      · rw [up_i (by omega), up_i (by omega), up_i (by omega), up_i (by omega), e69]
      · rw [up_i (by decide), up_i (by decide), up_i (by decide), up_s, e69]; exact hv.2.1
      · rw [up_i (by decide), up_i (by decide), up_s, e69]; exact hv.2.2.1
      · rw [up_i (by decide), up_s, e69]; exact hv.2.2.2.1
      · rw [up_s, e69]; exact hv.2.2.2.2
    | succ m ih =>
      intro i hi k' hp
      have e114 : k' 114 = k 114 := hp.1 114 (by decide) (by decide) (by decide) (by decide)
      have a4 : w32 (4 + (i : Int)) = ((4 + i : Nat) : Int) := by rw [w32_of (by omega) (by omega)]; omega
      have a12 : w32 (12 + (i : Int)) = ((12 + i : Nat) : Int) := by rw [w32_of (by omega) (by omega)]; omega
      have a20 : w32 (20 + (i : Int)) = ((20 + i : Nat) : Int) := by rw [w32_of (by omega) (by omega)]; omega
      refine b197_27 (br_i (fun q => absurd q (by omega)) (fun _ => ?_))
      rw [a4, a12, a20, w32_n (by omega)]
      simp only [Int.toNat_natCast]
      rw [e114, hv.1 (4 + i) (by omega), hv.1 (12 + i) (by omega), hv.1 (20 + i) (by omega), kp_2 (by omega), kp_3 (by omega), kp_4, w76 i]
      refine an_i (by omega) (by omega) (an_i (by omega) (by omega) (an_i (by omega) (by omega) (an_i (by omega) (by omega) (an_i (by omega) (by omega) (an_i (by omega) (by omega) (ih (i + 1) (by omega) _ ⟨fun q h1 h2 h3 h4 => by rw [up_p h4, up_p h3, up_p h2]; exact hp.1 q h1 h2 h3 h4, ?_, fun x hx => ?_⟩))))))
      · rw [up_p (by decide), up_p (by decide), up_p (by decide)]; exact hp.2.1
      · rw [up_p (p := 76) (q := 73) (by decide), up_p (p := 75) (q := 73) (by decide), up_st, up_p (p := 76) (q := 75) (by decide), up_st, up_p (p := 73) (q := 75) (by decide), up_st, up_p (p := 75) (q := 76) (by decide), up_p (p := 73) (q := 76) (by decide)]
        by_cases ex : x = i
        · subst ex
          rw [st1_s, st1_s, st1_s, z73, z75]
          exact ⟨rfl, rfl, rfl⟩
        · rw [st1_n ex, st1_n ex, st1_n ex]; exact hp.2.2 x (by omega)
  have L1 : ∀ m i : Nat, i + m = 4 → ∀ k', PB k0 k k' i 0 → X d 197 2 [some (P 69), some (I (i : Int))] [] k' Q := by
    intro m
    induction m with
    | zero =>
      intro i hi k' hp
      have ei : i = 4 := by omega
      subst ei
      exact b197_2 (br_i (fun _ => L2 8 0 rfl k' hp) (fun q => absurd (by omega) q))
    | succ m ih =>
      intro i hi k' hp
      have e114 : k' 114 = k 114 := hp.1 114 (by decide) (by decide) (by decide) (by decide)
      refine b197_2 (br_i (fun q => absurd q (by omega)) (fun _ => an_i (by omega) (by omega) (an_i (by omega) (by omega) ?_)))
      rw [w32_n (by omega)]
      simp only [Int.toNat_natCast]
      rw [e114, hv.1 i (by omega), kp_1 (by omega)]
      refine ih (i + 1) (by omega) _ ⟨fun q h1 h2 h3 h4 => by rw [up_p h1]; exact hp.1 q h1 h2 h3 h4, fun x hx => ?_, ?_⟩
      · rw [up_st]
        by_cases ex : x = i
        · subst ex; rw [st1_s, z95]
        · rw [st1_n ex]; exact hp.2.1 x (by omega)
      · rw [up_p (by decide), up_p (by decide), up_p (by decide)]; exact hp.2.2
  refine b197_0 (L1 4 0 rfl k ⟨fun _ _ _ _ _ => rfl, fun x hx => ?_, fun x hx => ?_⟩)
  · rw [e95, z95]; exact hm.2.1.2.1 x (by omega)
  · have y := hm.2.1.1 x (by omega)
    rw [e73, e75, z73, z75]
    refine ⟨y.1, y.2.1, ?_⟩
    rw [MV_76 hm x, y.2.1, y.2.2]
    exact w76 x
/-- a tick on trial -/
theorem m_tickV {B : Int} {hr : Nat} (hm : MV h k0 k S B) (hB : B ≤ 2000000000) (h2 : 2000000 ≤ B) (hY : BYH S k hr) (eh : Int.tmod (k 69 32) 12 = (hr : Int)) (hr1 : hr < 12) (H : ∀ k', MV h k0 k' (nx S hr) (B + 40000) → k' 69 32 = w32 (k 69 32 + 1) → (k' 113 = k 113 ∧ k' 114 = k 114) → (∀ x, ¬ (32 ≤ x ∧ x ≤ 35) → ¬ (49 ≤ x ∧ x ≤ 53) → ¬ (55 ≤ x ∧ x ≤ 62) → k' 69 x = k 69 x) → Q (I 0) k') : X (d + 21) 182 0 [some (P 69), none, none, none, none, none, none] [] k Q := by
  refine m_tick hm.1 hB hY eh hr1 (fun g hM => H _ ⟨TKR_n hm.1 h2 hM, STB_n hm.1.1 hm.2.1, ⟨fun q h1 h2 h3 h4 h5 h6 => ?_, fun x h1 h2 h3 h4 h5 => ?_⟩, fun p hp => ?_⟩ up_s ⟨?_, ?_⟩ (fun x h1 h2 h3 => ?_))
  · rw [up_p h1, hM.1.1 q h1 h2 h3 h4 h5 (by omega)]; exact hm.2.2.1.1 q h1 h2 h3 h4 h5 h6
  · rw [up_i (by omega), hM.1.2 x (by omega) h2 h3]; exact hm.2.2.1.2 x h1 h2 h3 h4 h5
  · have y := (hm.2.1.2.2.1 p).mpr hp
    rw [up_p (by decide), hM.2.1.2.2.2.2 p (by omega)]
    exact hm.2.2.2 p hp
  · rw [up_p (by decide)]; exact hM.1.1 113 (by decide) (by decide) (by decide) (by decide) (by decide) (by decide)
  · rw [up_p (by decide)]; exact hM.1.1 114 (by decide) (by decide) (by decide) (by decide) (by decide) (by decide)
  · rw [up_i (by omega), hM.1.2 x (by omega) h2 h3]
end P77
