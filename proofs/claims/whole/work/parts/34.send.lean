/-! what is sent, taken, made, led: both sides, by pure sums -/
theorem tdv {a b : Int} (h : 0 ≤ a) : Int.tdiv a b = a / b := Int.tdiv_eq_ediv_of_nonneg h
theorem snd_w {f : Nat → Int} (hr : rise f) (hp : rgA f 0 9999) {t : Int} (t0 : 0 ≤ t) (t6 : t < 600) : w32 (f (t / 100).toNat + w32 (Int.tdiv (w32 (w32 (f (t / 100 + 1).toNat - f (t / 100).toNat) * w32 (t - w32 (100 * (t / 100))))) 100)) = sndA f t := by
  have b := snd_b hr t0 t6
  have r1 := hp (t / 100).toNat
  have r2 := hp ((t / 100).toNat + 1)
  have hd := hr (t / 100).toNat (by omega)
  have e0 : (t / 100 + 1).toNat = (t / 100).toNat + 1 := by omega
  rw [e0]
  unfold sndA at b ⊢
  rw [if_neg (by omega)] at b ⊢
  generalize f (t / 100).toNat = a at *
  generalize f ((t / 100).toNat + 1) = c at *
  have m := mul_rg (a := c - a) (b := t - 100 * (t / 100)) (A := 9999) (B := 99) (by omega) (by omega) (by omega) (by omega)
  rw [w32_of (x := 100 * (t / 100)) (by omega) (by omega), w32_of (x := t - 100 * (t / 100)) (by omega) (by omega), w32_of (x := c - a) (by omega) (by omega), w32_of (x := (c - a) * (t - 100 * (t / 100))) (by omega) (by omega), tdv m.1]
  generalize (c - a) * (t - 100 * (t / 100)) = y at *
  rw [w32_of (x := y / 100) (by omega) (by omega), w32_of (by omega) (by omega)]
theorem c_let {d : Nat} {h : HP} {Q : PV → HP → Prop} {p t dr sn v5 s : Int} (p0 : 0 ≤ p) (p8 : p < 8) (ha : rgA (h 4) 0 20) (s0 : 0 ≤ s) (s1 : s ≤ 9999) (n0 : 0 ≤ sn) (n1 : sn ≤ 100) (H : Q (I (h 4 p.toNat * letD dr s * sn / 100)) h) : X d 11 58 [some (P 1), some (I p), some (I t), some (I dr), some (I sn), some (I v5), some (I s), none] [] h Q := by
  have K : ∀ x : Int, 0 ≤ x → x ≤ 9999 → letD dr s = x → X d 11 83 [some (P 1), some (I p), some (I t), some (I dr), some (I sn), some (I v5), some (I s), none] [I x] h Q := by
    intro x x0 x1 e
    have a := ha p.toNat
    have m1 := mul_rg a.1 a.2 x0 x1
    have m2 := mul_rg m1.1 m1.2 n0 n1
    refine b11_83 (an_i p0 p8 ?_)
    rw [e] at H
    rw [w32_of (x := h 4 p.toNat * x) (by omega) (by omega), w32_of (x := h 4 p.toNat * x * sn) (by omega) (by omega), tdv m2.1, w32_of (by omega) (by omega)]
    exact H
  refine b11_58 (br_i (fun q0 => br_i (fun q1 => ?_) (fun q1 => ?_)) (fun q0 => ?_))
  · exact K s s0 s1 (by unfold letD; rw [if_neg q0, if_neg q1])
  · rw [tdv s0, w32_of (by omega) (by omega)]
    exact K (s / 2) (by omega) (by omega) (by unfold letD; rw [if_neg q0, if_pos (by omega)])
  · rw [tdv s0, w32_of (by omega) (by omega)]
    exact K (s / 5) (by omega) (by omega) (by unfold letD; rw [if_pos (by omega)])
theorem c_sent {d : Nat} {h : HP} {Q : PV → HP → Prop} {p t dr sn : Int} (p0 : 0 ≤ p) (p8 : p < 8) (t0 : 0 ≤ t) (t6 : t ≤ 600) (hr : rise (h 31)) (hp : rgA (h 31) 0 9999) (ha : rgA (h 4) 0 20) (n0 : 0 ≤ sn) (n1 : sn ≤ 100) (H : Q (I (snt (h 31) (h 4 p.toNat) dr sn t)) h) : X d 11 0 [some (P 1), some (I p), some (I t), some (I dr), some (I sn), none, none, none] [] h Q := by
  have e1 : w32 (Int.tdiv t 100) = t / 100 := by rw [tdv t0, w32_of (by omega) (by omega)]
  have e2 : w32 (t / 100 + 1) = t / 100 + 1 := w32_of (by omega) (by omega)
  have hs := snd_r hr hp t0
  unfold snt at H
  refine b11_0 ?_
  rw [e1, e2]
  refine an_i (by omega) (by omega) (br_i (fun q => ?_) (fun q => an_i (by omega) (by omega) ?_))
  · have e : h 31 (t / 100).toNat = sndA (h 31) t := by
      unfold sndA; rw [if_pos (by omega), show (t / 100).toNat = 6 by omega]
    rw [e]
    exact c_let p0 p8 ha hs.1 hs.2 n0 n1 H
  · rw [snd_w hr hp t0 (by omega)]
    exact c_let p0 p8 ha hs.1 hs.2 n0 n1 H
/-- what a plate takes of the sun -/
def tkF (ar co tks fa : Nat → Int) (sun yr : Int) (p : Nat) : Int := ar p * sun * tks (co p * 10 + yr).toNat * fa p / 200
def sbF (sn co : Nat → Int) (yr ys : Int) (p : Nat) : Int := if sn (co p * 10 + yr).toNat * ys / 100 ≤ 100 then sn (co p * 10 + yr).toNat * ys / 100 else 100
/-- what a box that works makes on p -/
def bxF (wt pl on : Nat → Int) (ys : Int) (p : Nat) (k : Nat) : Int := if ¬ on k = 0 ∧ pl k = p then wt k * ys / 100 else 0
def htF (wt pl on : Nat → Int) (p : Nat) (k : Nat) : Int := if ¬ on k = 0 ∧ pl k = p then wt k else 0
theorem tk_w {a s t f : Int} (a0 : 0 ≤ a) (a1 : a ≤ 20) (s0 : 0 ≤ s) (s1 : s ≤ 1500) (t0 : 0 ≤ t) (t1 : t ≤ 100) (f0 : 0 ≤ f) (f1 : f ≤ 2) : w32 (Int.tdiv (w32 (w32 (w32 (a * s) * t) * f)) 200) = a * s * t * f / 200 ∧ 0 ≤ a * s * t * f / 200 ∧ a * s * t * f / 200 ≤ 30000 := by
  have m1 := mul_rg a0 a1 s0 s1
  have m2 := mul_rg m1.1 m1.2 t0 t1
  have m3 := mul_rg m2.1 m2.2 f0 f1
  rw [w32_of (x := a * s) (by omega) (by omega), w32_of (x := a * s * t) (by omega) (by omega), w32_of (x := a * s * t * f) (by omega) (by omega), tdv m3.1]
  generalize a * s * t * f = y at *
  rw [w32_of (by omega) (by omega)]
  refine ⟨rfl, by omega, by omega⟩
theorem tk_r {ar co tks fa : Nat → Int} {sun yr : Int} (p : Nat) (h1 : rgA ar 0 20) (h2 : 0 ≤ sun) (h3 : sun ≤ 1500) (h4 : rgA tks 0 100) (h5 : rgA fa 0 2) : 0 ≤ tkF ar co tks fa sun yr p ∧ tkF ar co tks fa sun yr p ≤ 30000 :=
  (tk_w (h1 p).1 (h1 p).2 h2 h3 (h4 _).1 (h4 _).2 (h5 p).1 (h5 p).2).2
theorem c_taken {d : Nat} {h : HP} {Q : PV → HP → Prop} {p sun yr : Int} (p0 : 0 ≤ p) (p8 : p < 8) (s0 : 0 ≤ sun) (s1 : sun ≤ 1500) (y0 : 0 ≤ yr) (y1 : yr ≤ 9) (h4 : rgA (h 4) 0 20) (h5 : rgA (h 5) 0 3) (h6 : rgA (h 6) 0 2) (h32 : rgA (h 32) 0 100) (H : Q (I (tkF (h 4) (h 5) (h 32) (h 6) sun yr p.toNat)) h) : X d 9 0 [some (P 1), some (I p), some (I sun), some (I yr), none] [] h Q := by
  have c := h5 p.toNat
  have e : w32 (w32 (h 5 p.toNat * 10) + yr) = h 5 p.toNat * 10 + yr := w32_c c.1 (by omega) y0 (by omega)
  refine z9 ?_
  rw [e, (tk_w (h4 p.toNat).1 (h4 p.toNat).2 s0 s1 (h32 _).1 (h32 _).2 (h6 p.toNat).1 (h6 p.toNat).2).1]
  exact an_i p0 p8 (an_i (by omega) (by omega) (an_i p0 p8 (an_i p0 p8 H)))
theorem c_sendsOf {d : Nat} {h : HP} {Q : PV → HP → Prop} {p yr : Int} (p0 : 0 ≤ p) (p8 : p < 8) (y0 : 0 ≤ yr) (y1 : yr ≤ 9) (h5 : rgA (h 5) 0 3) (H : Q (I (h 33 (h 5 p.toNat * 10 + yr).toNat)) h) : X d 10 0 [some (P 1), some (I p), some (I yr)] [] h Q := by
  have c := h5 p.toNat
  have e : w32 (w32 (h 5 p.toNat * 10) + yr) = h 5 p.toNat * 10 + yr := w32_c c.1 (by omega) y0 (by omega)
  refine z10 ?_
  rw [e]
  exact an_i p0 p8 (an_i (by omega) (by omega) H)
/-! the model's side -/
/-- a scene of the model that can be worked out -/
def MS (h : HP) : Prop :=
  ((0 ≤ h 69 9 ∧ h 69 9 ≤ 8) ∧ (0 ≤ h 69 17 ∧ h 69 17 ≤ 20) ∧ (0 ≤ h 69 22 ∧ h 69 22 ≤ 8) ∧ (0 ≤ h 69 26 ∧ h 69 26 ≤ 8) ∧ (0 ≤ h 69 30 ∧ h 69 30 ≤ 4)) ∧
  ((0 ≤ h 69 59 ∧ h 69 59 ≤ 1500) ∧ (0 ≤ h 69 60 ∧ h 69 60 ≤ 9) ∧ (0 ≤ h 69 61 ∧ h 69 61 ≤ 150) ∧ (0 ≤ h 69 62 ∧ h 69 62 ≤ 150)) ∧
  (rgA (h 71) 0 20 ∧ rgA (h 72) 0 3 ∧ rgA (h 74) 0 2 ∧ rgA (h 79) 0 9999 ∧ rise (h 79) ∧ rgA (h 80) 0 100 ∧ rgA (h 81) 0 100 ∧ rgA (h 91) 0 999 ∧ rgA (h 94) 0 999) ∧
  (lnk (h 69 9).toNat (h 69 17).toNat (h 83) (h 84) (h 106) ∧ lnk (h 69 9).toNat (h 69 22).toNat (h 86) (h 87) (h 88))
def GM (h : HP) (p : Nat) : Int := tkF (h 71) (h 72) (h 80) (h 74) (h 69 59) (h 69 60) p + sm (bxF (h 91) (h 109) (h 108) (h 69 61) p) (h 69 26).toNat + sm (htF (h 94) (h 93) (h 110) p) (h 69 30).toNat
def TM (h : HP) (p : Nat) (t : Int) : Int := snt (h 79) (h 71 p) (h 111 p) (sbF (h 81) (h 72) (h 69 60) (h 69 62) p) t
def ntM (h : HP) : (Nat → Int) → Nat → Int := nt (h 69 17).toNat (h 69 22).toNat (GM h) (TM h) (h 83) (h 84) (h 106) (h 86) (h 87) (h 88) (h 107)
theorem sb_r {sn co : Nat → Int} {yr ys : Int} (p : Nat) (h1 : rgA sn 0 100) (h2 : 0 ≤ ys) (h3 : ys ≤ 150) : 0 ≤ sbF sn co yr ys p ∧ sbF sn co yr ys p ≤ 100 ∧ 0 ≤ sn (co p * 10 + yr).toNat * ys ∧ sn (co p * 10 + yr).toNat * ys ≤ 15000 := by
  have m := mul_rg (h1 (co p * 10 + yr).toNat).1 (h1 (co p * 10 + yr).toNat).2 h2 h3
  unfold sbF
  generalize sn (co p * 10 + yr).toNat * ys = y at *
  split <;> omega
theorem m_sendAt {d : Nat} {h : HP} {Q : PV → HP → Prop} {t : Int} (t0 : 0 ≤ t) (t6 : t ≤ 600) (hr : rise (h 79)) (hp : rgA (h 79) 0 9999) (H : Q (I (sndA (h 79) t)) h) : X d 176 0 [some (P 69), some (I t), none] [] h Q := by
  have e1 : w32 (Int.tdiv t 100) = t / 100 := by rw [tdv t0, w32_of (by omega) (by omega)]
  have e2 : w32 (t / 100 + 1) = t / 100 + 1 := w32_of (by omega) (by omega)
  refine z176 ?_
  rw [e1, e2]
  refine br_i (fun q => an_i (by omega) (by omega) (an_i (by omega) (by omega) (an_i (by omega) (by omega) ?_))) (fun q => ?_)
  · rw [snd_w hr hp t0 (by omega)]; exact H
  · have e : sndA (h 79) t = h 79 6 := by unfold sndA; rw [if_pos (by omega)]
    rw [e] at H; exact H
theorem m_sends {d : Nat} {h : HP} {Q : PV → HP → Prop} {p : Int} (p0 : 0 ≤ p) (p8 : p < 8) (w0 : 0 ≤ h 105 p.toNat) (w6 : h 105 p.toNat ≤ 600) (hM : MS h) (H : Q (I (TM h p.toNat (h 105 p.toNat))) h) : X (d + 1) 180 0 [some (P 69), some (I p), none, none] [] h Q := by
  obtain ⟨⟨-, -, -, -, -⟩, ⟨-, ⟨y0, y1⟩, -, ⟨b0, b1⟩⟩, ⟨h71, h72, -, h79, hr, -, h81, -, -⟩, -⟩ := id hM
  have hs := snd_r hr h79 w0
  have c := h72 p.toNat
  have e : w32 (w32 (10 * h 72 p.toNat) + h 69 60) = h 72 p.toNat * 10 + h 69 60 := by
    rw [Int.mul_comm 10]; exact w32_c c.1 (by omega) y0 (by omega)
  have sb := sb_r (co := h 72) (yr := h 69 60) p.toNat h81 b0 b1
  refine b180_0 (an_i p0 p8 (m_sendAt w0 w6 hr h79 ?_))
  have K : ∀ x v : Int, 0 ≤ x → x ≤ 9999 → letD (h 111 p.toNat) (sndA (h 79) (h 105 p.toNat)) = x → X (d + 1) 180 43 [some (P 69), some (I p), some (I v), none] [I x] h Q := by
    intro x v x0 x1 ex
    have a := h71 p.toNat
    have m1 := mul_rg a.1 a.2 x0 x1
    refine b180_43 ?_
    unfold TM snt at H
    rw [ex] at H
    rw [e, w32_of (x := h 81 (h 72 p.toNat * 10 + h 69 60).toNat * h 69 62) (by omega) (by omega), tdv sb.2.2.1, w32_of (x := h 81 (h 72 p.toNat * 10 + h 69 60).toNat * h 69 62 / 100) (by omega) (by omega), w32_of (x := h 71 p.toNat * x) (by omega) (by omega)]
    have m2 := mul_rg m1.1 m1.2 sb.1 sb.2.1
    unfold sbF at H m2
    refine an_i p0 p8 (an_i (by omega) (by omega) (an_i p0 p8 (br_i (fun q => ?_) (fun q => ?_))))
    · rw [if_pos q] at H m2
      rw [w32_of (x := h 71 p.toNat * x * (h 81 (h 72 p.toNat * 10 + h 69 60).toNat * h 69 62 / 100)) (by omega) (by omega), tdv m2.1, w32_of (by omega) (by omega)]
      exact H
    · rw [if_neg q] at H m2
      rw [w32_of (x := h 71 p.toNat * x * 100) (by omega) (by omega), tdv m2.1, w32_of (by omega) (by omega)]
      exact H
  refine b180_10 (an_i p0 p8 (br_i (fun q0 => an_i p0 p8 (br_i (fun q1 => ?_) (fun q1 => ?_))) (fun q0 => ?_)))
  · exact K _ _ hs.1 hs.2 (by unfold letD; rw [if_neg q0, if_neg q1])
  · rw [tdv hs.1, w32_of (by omega) (by omega)]
    exact K _ _ (by omega) (by omega) (by unfold letD; rw [if_neg q0, if_pos (by omega)])
  · rw [tdv hs.1, w32_of (by omega) (by omega)]
    exact K _ _ (by omega) (by omega) (by unfold letD; rw [if_pos (by omega)])
theorem m_takes {d : Nat} {h : HP} {Q : PV → HP → Prop} {p : Int} (p0 : 0 ≤ p) (p8 : p < 8) (hM : MS h) (H : Q (I (tkF (h 71) (h 72) (h 80) (h 74) (h 69 59) (h 69 60) p.toNat)) h) : X d 178 0 [some (P 69), some (I p)] [] h Q := by
  obtain ⟨⟨-, -, -, -, -⟩, ⟨⟨s0, s1⟩, ⟨y0, y1⟩, -, -⟩, ⟨h71, h72, h74, -, -, h80, -, -, -⟩, -⟩ := id hM
  have c := h72 p.toNat
  have e : w32 (w32 (10 * h 72 p.toNat) + h 69 60) = h 72 p.toNat * 10 + h 69 60 := by
    rw [Int.mul_comm 10]; exact w32_c c.1 (by omega) y0 (by omega)
  refine b178_0 ?_
  rw [e, (tk_w (h71 p.toNat).1 (h71 p.toNat).2 s0 s1 (h80 _).1 (h80 _).2 (h74 p.toNat).1 (h74 p.toNat).2).1]
  exact an_i p0 p8 (an_i p0 p8 (an_i (by omega) (by omega) (an_i p0 p8 H)))
theorem bx_r {wt pl on : Nat → Int} {ys : Int} (p k : Nat) (h1 : rgA wt 0 999) (h2 : 0 ≤ ys) (h3 : ys ≤ 150) : 0 ≤ bxF wt pl on ys p k ∧ bxF wt pl on ys p k ≤ 1500 ∧ 0 ≤ wt k * ys ∧ wt k * ys ≤ 149850 := by
  have m := mul_rg (h1 k).1 (h1 k).2 h2 h3
  unfold bxF
  generalize wt k * ys = y at *
  split <;> omega
theorem ht_r {wt pl on : Nat → Int} (p k : Nat) (h1 : rgA wt 0 999) : 0 ≤ htF wt pl on p k ∧ htF wt pl on p k ≤ 999 := by
  have m := h1 k
  unfold htF
  split <;> omega
theorem ge_nn {n : Int} {i : Nat} (h0 : 0 ≤ n) (hi : ¬ (i < n.toNat)) : n ≤ (i : Int) := by omega
theorem lt_nn {n : Int} {i : Nat} (hi : i < n.toNat) : ¬ n ≤ (i : Int) := by omega
theorem m_makes {d : Nat} {h : HP} {Q : PV → HP → Prop} {p : Nat} (hM : MS h) (H : Q (I (sm (bxF (h 91) (h 109) (h 108) (h 69 61) p) (h 69 26).toNat + sm (htF (h 94) (h 93) (h 110) p) (h 69 30).toNat)) h) : X d 179 0 [some (P 69), some (I p), none, none] [] h Q := by
  obtain ⟨⟨-, -, -, ⟨c0, c1⟩, ⟨d0, d1⟩⟩, ⟨-, -, ⟨b0, b1⟩, -⟩, ⟨-, -, -, -, -, -, -, h91, h94⟩, -⟩ := id hM
  have bb := fun n : Nat => sm_b (f := bxF (h 91) (h 109) (h 108) (h 69 61) p) (n := n) (a := 0) (b := 1500) (fun j _ => ⟨(bx_r p j h91 b0 b1).1, (bx_r p j h91 b0 b1).2.1⟩)
  have hb := fun n : Nat => sm_b (f := htF (h 94) (h 93) (h 110) p) (n := n) (a := 0) (b := 999) (fun j _ => ht_r p j h94)
  have L2 : ∀ k i : Nat, i + k = (h 69 30).toNat → X d 179 60 [some (P 69), some (I p), some (I (sm (bxF (h 91) (h 109) (h 108) (h 69 61) p) (h 69 26).toNat + sm (htF (h 94) (h 93) (h 110) p) i)), some (I i)] [] h Q := by
    intro k
    induction k with
    | zero =>
      intro i hi
      refine b179_60 (br_i (fun q => ?_) (fun q => absurd (by omega) q))
      rw [show i = (h 69 30).toNat by omega]; exact H
    | succ k ih =>
      intro i hi
      have z := bb (h 69 26).toNat
      have z2 := hb i
      have z3 := ht_r (pl := h 93) (on := h 110) p i h94
      have N : ∀ y : Int, y = htF (h 94) (h 93) (h 110) p i → X d 179 98 [some (P 69), some (I p), some (I (sm (bxF (h 91) (h 109) (h 108) (h 69 61) p) (h 69 26).toNat + sm (htF (h 94) (h 93) (h 110) p) i)), some (I i)] [I y, I (sm (bxF (h 91) (h 109) (h 108) (h 69 61) p) (h 69 26).toNat + sm (htF (h 94) (h 93) (h 110) p) i)] h Q := by
        intro y hy
        subst hy
        refine b179_98 ?_
        rw [w32_of (by omega) (by omega), w32_of (by omega) (by omega)]
        have := ih (i + 1) (by omega)
        simp only [sm] at this
        rw [← Int.add_assoc] at this
        exact this
      refine b179_60 (br_i (fun q => absurd q (by omega)) (fun _ => an_i (by omega) (by omega) (br_i (fun q => ?_) (fun q => an_i (by omega) (by omega) (br_i (fun q2 => ?_) (fun q2 => an_i (by omega) (by omega) ?_))))))
      · refine b179_97 (N 0 ?_)
        unfold htF; rw [if_neg (fun x => x.1 q)]
      · refine b179_97 (N 0 ?_)
        unfold htF; rw [if_neg (fun x => q2 x.2)]
      · refine N _ ?_
        unfold htF
        rw [if_pos ⟨q, by simpa using q2⟩]
        rfl
  have L1 : ∀ k i : Nat, i + k = (h 69 26).toNat → X d 179 4 [some (P 69), some (I p), some (I (sm (bxF (h 91) (h 109) (h 108) (h 69 61) p) i)), some (I i)] [] h Q := by
    intro k
    induction k with
    | zero =>
      intro i hi
      refine b179_4 (br_i (fun q => ?_) (fun q => absurd (by omega) q))
      have := L2 (h 69 30).toNat 0 (by omega)
      simp only [sm, Int.add_zero] at this
      rw [show i = (h 69 26).toNat by omega]; exact this
    | succ k ih =>
      intro i hi
      have z := bb i
      have z3 := bx_r (pl := h 109) (on := h 108) p i h91 b0 b1
      have N : ∀ y : Int, y = bxF (h 91) (h 109) (h 108) (h 69 61) p i → X d 179 50 [some (P 69), some (I p), some (I (sm (bxF (h 91) (h 109) (h 108) (h 69 61) p) i)), some (I i)] [I y, I (sm (bxF (h 91) (h 109) (h 108) (h 69 61) p) i)] h Q := by
        intro y hy
        subst hy
        refine b179_50 ?_
        rw [w32_of (by omega) (by omega), w32_of (by omega) (by omega)]
        exact ih (i + 1) (by omega)
      refine b179_4 (br_i (fun q => absurd q (by omega)) (fun _ => an_i (by omega) (by omega) (br_i (fun q => ?_) (fun q => an_i (by omega) (by omega) (br_i (fun q2 => ?_) (fun q2 => an_i (by omega) (by omega) ?_))))))
      · refine b179_49 (N 0 ?_)
        unfold bxF; rw [if_neg (fun x => x.1 q)]
      · refine b179_49 (N 0 ?_)
        unfold bxF; rw [if_neg (fun x => q2 x.2)]
      · refine N _ ?_
        show w32 (Int.tdiv (w32 (h 91 i * h 69 61)) 100) = _
        rw [w32_of (x := h 91 i * h 69 61) (by omega) (by omega), tdv z3.2.2.1, w32_of (by omega) (by omega)]
        unfold bxF
        rw [if_pos ⟨q, by simpa using q2⟩]
  refine b179_0 ?_
  have := L1 (h 69 26).toNat 0 (by omega)
  exact this
