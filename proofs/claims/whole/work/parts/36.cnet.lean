/-! the class's solver: rows filled, nets, lowering, solve -/
theorem pw8 {n : Nat} (h : n ≤ 8) : (2 : Int) ^ n ≤ 256 := by
  have h1 : 2 ^ n ≤ 2 ^ 8 := Nat.pow_le_pow_right (by decide) h
  have e : ((2 : Int) ^ n) = ((2 ^ n : Nat) : Int) := by rw [Int.natCast_pow]; rfl
  have e8 : (2 ^ 8 : Nat) = 256 := by decide
  rw [e]; omega
def dJ (a b l : Nat → Int) (p q j : Nat) : Int := if (a j = p ∧ b j = q) ∨ (a j = q ∧ b j = p) then l j else 0
def dP (a b l z : Nat → Int) (p q k : Nat) : Int := if z k = 0 ∧ a k = p ∧ b k = q then l k else 0
theorem smJ {n m : Nat} {a b l w : Nat → Int} {p : Nat} {t : Int} (hl : lnk n m a b l) (hp : p < n) : ∀ N, N ≤ m → sm (fun q => sm (dJ a b l p q) N * (w q - t)) n = sm (ledJ a b l (st1 w p t) p) N
  | 0, _ => by
    rw [sm_0 (fun j _ => by simp [sm])]; rfl
  | N + 1, hN => by
    have ih := smJ (w := w) (t := t) hl hp N (by omega)
    have e : (fun q => sm (dJ a b l p q) (N + 1) * (w q - t)) = (fun q => sm (dJ a b l p q) N * (w q - t) + dJ a b l p q N * (w q - t)) := by
      funext q; simp only [sm]; rw [Int.add_mul]
    have key : sm (fun q => dJ a b l p q N * (w q - t)) n = ledJ a b l (st1 w p t) p N := by
      obtain ⟨a0, a1, b0, b1, hn, l0, l1⟩ := hl N (by omega)
      by_cases hb : b N = p
      · rw [sm_one (p := (a N).toNat) (by omega) (fun j hj hne => by
          have : dJ a b l p j N = 0 := by
            unfold dJ; rw [if_neg (by omega)]
          rw [this, Int.zero_mul])]
        have e1 : dJ a b l p (a N).toNat N = l N := by unfold dJ; rw [if_pos (by omega)]
        unfold ledJ
        rw [e1, if_pos hb, toN_eq hb, st1_s, st1_n (toN_ne a0 (by omega))]
      · by_cases ha : a N = p
        · rw [sm_one (p := (b N).toNat) (by omega) (fun j hj hne => by
            have : dJ a b l p j N = 0 := by
              unfold dJ; rw [if_neg (by omega)]
            rw [this, Int.zero_mul])]
          have e1 : dJ a b l p (b N).toNat N = l N := by unfold dJ; rw [if_pos (by omega)]
          unfold ledJ
          rw [e1, if_neg hb, if_pos ha, toN_eq ha, st1_s, st1_n (toN_ne b0 hb), ← Int.mul_neg, Int.neg_sub]
        · rw [sm_0 (fun j hj => by
            have : dJ a b l p j N = 0 := by
              unfold dJ; rw [if_neg (by omega)]
            rw [this, Int.zero_mul])]
          unfold ledJ
          rw [if_neg hb, if_neg ha]
    rw [e, sm_add, ih, key]; rfl
theorem smP {n m : Nat} {a b l z w : Nat → Int} {p : Nat} {t : Int} (hl : lnk n m a b l) (hp : p < n) : ∀ N, N ≤ m → sm (fun q => (if 0 < w q - t then sm (dP a b l z q p) N else sm (dP a b l z p q) N) * (w q - t)) n = sm (ledP a b l z (st1 w p t) p) N
  | 0, _ => by
    rw [sm_0 (fun j _ => by simp [sm])]; rfl
  | N + 1, hN => by
    have ih := smP (z := z) (w := w) (t := t) hl hp N (by omega)
    have e : (fun q => (if 0 < w q - t then sm (dP a b l z q p) (N + 1) else sm (dP a b l z p q) (N + 1)) * (w q - t)) = (fun q => (if 0 < w q - t then sm (dP a b l z q p) N else sm (dP a b l z p q) N) * (w q - t) + (if 0 < w q - t then dP a b l z q p N else dP a b l z p q N) * (w q - t)) := by
      funext q
      simp only [sm]
      rw [← Int.add_mul]
      split <;> rfl
    have key : sm (fun q => (if 0 < w q - t then dP a b l z q p N else dP a b l z p q N) * (w q - t)) n = ledP a b l z (st1 w p t) p N := by
      rw [ledP_e hl (show N < m by omega)]
      obtain ⟨a0, a1, b0, b1, hn, l0, l1⟩ := hl N (by omega)
      by_cases hz : z N = 0
      · rw [if_neg (not_not_intro hz)]
        by_cases hb : b N = p
        · rw [sm_one (p := (a N).toNat) (by omega) (fun j hj hne => by
            have e1 : dP a b l z j p N = 0 := by unfold dP; rw [if_neg (by omega)]
            have e2 : dP a b l z p j N = 0 := by unfold dP; rw [if_neg (by omega)]
            rw [e1, e2]; simp)]
          have e1 : dP a b l z (a N).toNat p N = l N := by unfold dP; rw [if_pos ⟨hz, by omega, hb⟩]
          have e2 : dP a b l z p (a N).toNat N = 0 := by unfold dP; rw [if_neg (by omega)]
          have sg := mul_sg (l := l N) (x := w (a N).toNat - t) l0
          rw [e1, e2, if_pos hb, st1_s, st1_n (toN_ne a0 (by omega))]
          by_cases hx : 0 < w (a N).toNat - t
          · rw [if_pos hx, if_pos (sg.2.1 (by omega))]
          · have := sg.2.2.2 (by omega)
            rw [if_neg hx]
            split <;> omega
        · rw [if_neg hb]
          by_cases ha : a N = p
          · rw [sm_one (p := (b N).toNat) (by omega) (fun j hj hne => by
              have e1 : dP a b l z j p N = 0 := by unfold dP; rw [if_neg (by omega)]
              have e2 : dP a b l z p j N = 0 := by unfold dP; rw [if_neg (by omega)]
              rw [e1, e2]; simp)]
            have e1 : dP a b l z (b N).toNat p N = 0 := by unfold dP; rw [if_neg (by omega)]
            have e2 : dP a b l z p (b N).toNat N = l N := by unfold dP; rw [if_pos ⟨hz, ha, by omega⟩]
            have sg := mul_sg (l := l N) (x := w (b N).toNat - t) l0
            have e3 : l N * (t - w (b N).toNat) = -(l N * (w (b N).toNat - t)) := by rw [← Int.mul_neg, Int.neg_sub]
            rw [e1, e2, if_pos ha, st1_s, st1_n (toN_ne b0 hb), e3]
            by_cases hx : 0 < w (b N).toNat - t
            · have := sg.2.1 (by omega)
              rw [if_pos hx]
              split <;> omega
            · have := sg.2.2.2 (by omega)
              rw [if_neg hx, if_pos (by omega)]
              omega
          · rw [sm_0 (fun j hj => by
              have e1 : dP a b l z j p N = 0 := by unfold dP; rw [if_neg (by omega)]
              have e2 : dP a b l z p j N = 0 := by unfold dP; rw [if_neg (by omega)]
              rw [e1, e2]; simp), if_neg ha]
      · rw [if_pos hz]
        exact sm_0 (fun j hj => by
          have e1 : dP a b l z j p N = 0 := by unfold dP; rw [if_neg (fun q => hz q.1)]
          have e2 : dP a b l z p j N = 0 := by unfold dP; rw [if_neg (fun q => hz q.1)]
          rw [e1, e2]; simp)
    rw [e, sm_add, ih, key]; rfl
section CLS
variable {n N1 N2 : Nat} {a b l a2 b2 l2 z : Nat → Int}
/-- what q leads to p, by the rows of the solver -/
def cqT (N1 N2 : Nat) (a b l a2 b2 l2 z : Nat → Int) (nb : Nat → Bool) (w : Nat → Int) (p : Nat) (t : Int) (q : Nat) : Int := if nb q = true then (sm (dJ a b l p q) N1 + (if 0 < w q - t then sm (dP a2 b2 l2 z q p) N2 else sm (dP a2 b2 l2 z p q) N2)) * (w q - t) else 0
theorem cls_sum {w : Nat → Int} {p : Nat} {t : Int} {nb : Nat → Bool} (h1 : lnk n N1 a b l) (h2 : lnk n N2 a2 b2 l2) (hp : p < n) (hz : ∀ q, q < n → nb q = false → sm (dJ a b l p q) N1 = 0 ∧ sm (dP a2 b2 l2 z p q) N2 = 0 ∧ sm (dP a2 b2 l2 z q p) N2 = 0) : sm (cqT N1 N2 a b l a2 b2 l2 z nb w p t) n = sm (ledJ a b l (st1 w p t) p) N1 + sm (ledP a2 b2 l2 z (st1 w p t) p) N2 := by
  rw [← smJ h1 hp N1 (Nat.le_refl _), ← smP h2 hp N2 (Nat.le_refl _), ← sm_add]
  apply sm_c
  intro q hq
  unfold cqT
  cases hb : nb q
  · obtain ⟨e1, e2, e3⟩ := hz q hq hb
    rw [e1, e2, e3]; simp
  · rw [if_pos rfl, Int.add_mul]
/-- the solver filled -/
def CS (h : HP) (n N1 N2 : Nat) (a b l a2 b2 l2 z : Nat → Int) : Prop :=
  (h 44 1 = n ∧ n ≤ 8 ∧ N1 ≤ 20 ∧ N2 ≤ 8) ∧ (rise (h 31) ∧ rgA (h 31) 0 9999 ∧ rgA (h 4) 0 20) ∧
  (∀ p, p < n → (0 ≤ h 45 p ∧ h 45 p ≤ 100000) ∧ (0 ≤ h 46 p ∧ h 46 p ≤ 100)) ∧
  (lnk n N1 a b l ∧ lnk n N2 a2 b2 l2) ∧
  (∀ p q, p < 8 → q < 8 → h 50 (p * 8 + q) = sm (dJ a b l p q) N1 ∧ h 51 (p * 8 + q) = sm (dP a2 b2 l2 z p q) N2) ∧
  (∀ p, p < 8 → 0 ≤ h 49 p ∧ h 49 p < 2 ^ n) ∧
  (∀ p q, p < 8 → q < 8 → bit (h 49 p) q = bit (h 49 q) p) ∧
  (∀ p q, p < 8 → q < 8 → bit (h 49 p) q = false → sm (dJ a b l p q) N1 = 0 ∧ sm (dP a2 b2 l2 z p q) N2 = 0 ∧ sm (dP a2 b2 l2 z q p) N2 = 0)
def TS (h : HP) (p : Nat) (t : Int) : Int := snt (h 31) (h 4 p) (h 47 p) (h 46 p) t
def ntS (h : HP) (N1 N2 : Nat) (a b l a2 b2 l2 z : Nat → Int) : (Nat → Int) → Nat → Int := nt N1 N2 (h 45) (TS h) a b l a2 b2 l2 z
def o48 (h h' : HP) : Prop := ∀ q, q ≠ 48 → h' q = h q
theorem o48_u {h h' : HP} {i : Nat} {v : Int} (H : o48 h h') : o48 h (up2 h' 48 i v) := fun q hq => by rw [up_p hq]; exact H q hq
theorem CS_o {h h' : HP} (H : o48 h h') (hC : CS h n N1 N2 a b l a2 b2 l2 z) : CS h' n N1 N2 a b l a2 b2 l2 z := by
  unfold CS at *
  simp only [H 44 (by decide), H 31 (by decide), H 4 (by decide), H 45 (by decide), H 46 (by decide), H 50 (by decide), H 51 (by decide), H 49 (by decide)]
  exact hC
theorem ntS_o {h h' : HP} (H : o48 h h') : ntS h' N1 N2 a b l a2 b2 l2 z = ntS h N1 N2 a b l a2 b2 l2 z := by
  funext w p
  unfold ntS nt TS
  simp only [H 45 (by decide), H 31 (by decide), H 4 (by decide), H 47 (by decide), H 46 (by decide)]
theorem TS_o {h h' : HP} (H : o48 h h') : TS h' = TS h := by
  funext w p
  unfold TS
  simp only [H 45 (by decide), H 31 (by decide), H 4 (by decide), H 47 (by decide), H 46 (by decide)]
theorem TS_r {h : HP} (hC : CS h n N1 N2 a b l a2 b2 l2 z) {p : Nat} (hp : p < n) {t : Int} (t0 : 0 ≤ t) : 0 ≤ TS h p t ∧ TS h p t ≤ 199980 := by
  obtain ⟨-, ⟨hr, h31, h4⟩, hg, -⟩ := hC
  exact (snt_r hr h31 (h4 p).1 (h4 p).2 (hg p hp).2.1 (hg p hp).2.2 t0).2.2.2.2
theorem TS_m {h : HP} (hC : CS h n N1 N2 a b l a2 b2 l2 z) {p : Nat} (hp : p < n) {s t : Int} (s0 : 0 ≤ s) (hst : s ≤ t) : TS h p s ≤ TS h p t := by
  obtain ⟨-, ⟨hr, h31, h4⟩, hg, -⟩ := hC
  exact snt_m hr (h4 p).1 (hg p hp).2.1 s0 hst
theorem ntS_mono {h : HP} (hC : CS h n N1 N2 a b l a2 b2 l2 z) : mono n (ntS h N1 N2 a b l a2 b2 l2 z) := nt_mono hC.2.2.2.1.1 hC.2.2.2.1.2
theorem ntS_anti {h : HP} (hC : CS h n N1 N2 a b l a2 b2 l2 z) : anti n (ntS h N1 N2 a b l a2 b2 l2 z) := nt_anti hC.2.2.2.1.1 hC.2.2.2.1.2 (fun p s t hp s0 hst _ => TS_m hC hp s0 hst)
/-- a plate's net does not hang on one that is not near -/
theorem ntS_ind {h : HP} (hC : CS h n N1 N2 a b l a2 b2 l2 z) {w : Nat → Int} {i q : Nat} {t : Int} (hi : i < n) (hq : q < n) (hne : q ≠ i) (hb : bit (h 49 i) q = false) : ntS h N1 N2 a b l a2 b2 l2 z (st1 w i t) q = ntS h N1 N2 a b l a2 b2 l2 z w q := by
  obtain ⟨⟨-, n8, -⟩, -, -, ⟨h1, h2⟩, -, -, hs, hz⟩ := id hC
  have E : ∀ w : Nat → Int, sm (ledJ a b l w q) N1 + sm (ledP a2 b2 l2 z w q) N2 = sm (cqT N1 N2 a b l a2 b2 l2 z (fun r => bit (h 49 q) r) w q (w q)) n := by
    intro w
    rw [cls_sum h1 h2 hq (fun r hr hb => hz q r (by omega) (by omega) hb), st1_id]
  have e2 : sm (cqT N1 N2 a b l a2 b2 l2 z (fun r => bit (h 49 q) r) (st1 w i t) q (st1 w i t q)) n = sm (cqT N1 N2 a b l a2 b2 l2 z (fun r => bit (h 49 q) r) w q (w q)) n := by
    apply sm_c
    intro r hr
    rw [st1_n hne]
    unfold cqT
    by_cases e : r = i
    · subst e
      have : bit (h 49 q) r = false := by rw [hs q r (by omega) (by omega)]; exact hb
      simp only [this]; simp
    · rw [st1_n e]
  have E1 := E w
  have E2 := E (st1 w i t)
  rw [e2] at E2
  unfold ntS nt
  rw [st1_n hne]
  omega
theorem ix8 {p q : Nat} (hp : p < 8) (hq : q < 8) : w32 (w32 ((p : Int) * 8) + (q : Int)) = ((p * 8 + q : Nat) : Int) := by
  rw [w32_of (x := (p : Int) * 8) (by omega) (by omega), w32_of (by omega) (by omega)]; omega
theorem mul_a2 {l x : Int} (l0 : 0 ≤ l) (l1 : l ≤ 2772) (x0 : -600 ≤ x) (x1 : x ≤ 600) : -1663200 ≤ l * x ∧ l * x ≤ 1663200 := by
  have h1 := Int.mul_le_mul_of_nonneg_left x1 l0
  have h2 := Int.mul_le_mul_of_nonneg_left x0 l0
  omega
theorem dJ_r {m : Nat} (hl : lnk n m a b l) (hm : m ≤ 20) (p q : Nat) : 0 ≤ sm (dJ a b l p q) m ∧ sm (dJ a b l p q) m ≤ 1980 := by
  have := sm_b (f := dJ a b l p q) (n := m) (a := 0) (b := 99) (fun j hj => by
    obtain ⟨a0, a1, b0, b1, hn, l0, l1⟩ := hl j hj
    unfold dJ
    split <;> omega)
  omega
theorem dP_r {m : Nat} (hl : lnk n m a b l) (hm : m ≤ 8) (p q : Nat) : 0 ≤ sm (dP a b l z p q) m ∧ sm (dP a b l z p q) m ≤ 792 := by
  have := sm_b (f := dP a b l z p q) (n := m) (a := 0) (b := 99) (fun j hj => by
    obtain ⟨a0, a1, b0, b1, hn, l0, l1⟩ := hl j hj
    unfold dP
    split <;> omega)
  omega
set_option maxHeartbeats 4000000 in
theorem c_net {d : Nat} {h : HP} {Q : PV → HP → Prop} {p : Nat} {t : Int} (hC : CS h n N1 N2 a b l a2 b2 l2 z) (hp : p < n) (t0 : 0 ≤ t) (t6 : t ≤ 600) (hW : ∀ q, q < n → 0 ≤ h 48 q ∧ h 48 q ≤ 600) (H : Q (I (ntS h N1 N2 a b l a2 b2 l2 z (st1 (h 48) p t) p)) h) : X (d + 1) 76 0 [some (P 44), some (I p), some (I t), none, none, none, none] [] h Q := by
  obtain ⟨⟨hn, n8, m20, m8⟩, ⟨hr, h31, h4⟩, hg, ⟨k1, k2⟩, hJP, hnr, hsy, hz⟩ := id hC
  have g1 := hg p hp
  have ts := TS_r hC hp t0
  have p8 : p < 8 := by omega
  have nr := hnr p p8
  have pw := pw8 n8
  have cb : ∀ q, q < n → -1663200 ≤ cqT N1 N2 a b l a2 b2 l2 z (fun r => bit (h 49 p) r) (h 48) p t q ∧ cqT N1 N2 a b l a2 b2 l2 z (fun r => bit (h 49 p) r) (h 48) p t q ≤ 1663200 := by
    intro q hq
    have w := hW q hq
    have x1 := dJ_r k1 m20 p q
    have x2 := dP_r (z := z) k2 m8 p q
    have x3 := dP_r (z := z) k2 m8 q p
    unfold cqT
    split
    · split
      · exact mul_a2 (by omega) (by omega) (by omega) (by omega)
      · exact mul_a2 (by omega) (by omega) (by omega) (by omega)
    · omega
  have eN : ntS h N1 N2 a b l a2 b2 l2 z (st1 (h 48) p t) p = h 45 p - TS h p t + sm (cqT N1 N2 a b l a2 b2 l2 z (fun r => bit (h 49 p) r) (h 48) p t) n := by
    rw [cls_sum k1 k2 hp (fun r hr hb => hz p r p8 (by omega) hb)]
    unfold ntS nt
    rw [st1_s]; omega
  rw [eN] at H
  have L : ∀ k i : Nat, i + k = n → X (d + 1) 76 32 [some (P 44), some (I p), some (I t), some (I (h 45 p - TS h p t + sm (cqT N1 N2 a b l a2 b2 l2 z (fun r => bit (h 49 p) r) (h 48) p t) i)), some (I i), none, none] [] h Q := by
    intro k
    induction k with
    | zero =>
      intro i hi
      refine b76_32 (br_i (fun q => ?_) (fun q => absurd (by rw [hn]; omega) q))
      rw [show i = n by omega]; exact H
    | succ k ih =>
      intro i hi
      have bi := sm_b (f := cqT N1 N2 a b l a2 b2 l2 z (fun r => bit (h 49 p) r) (h 48) p t) (n := i) (a := -1663200) (b := 1663200) (fun j hj => cb j (by omega))
      have ci := cb i (by omega)
      have w := hW i (by omega)
      have i8 : i < 8 := by omega
      have N : ∀ y : Int, y = cqT N1 N2 a b l a2 b2 l2 z (fun r => bit (h 49 p) r) (h 48) p t i → X (d + 1) 76 124 [some (P 44), some (I p), some (I t), some (I (w32 (h 45 p - TS h p t + sm (cqT N1 N2 a b l a2 b2 l2 z (fun r => bit (h 49 p) r) (h 48) p t) i + y))), some (I i), none, none] [] h Q := by
        intro y hy
        subst hy
        refine b76_124 ?_
        rw [w32_of (by omega) (by omega), w32_of (by omega) (by omega)]
        have := ih (i + 1) (by omega)
        simp only [sm] at this
        rw [← Int.add_assoc] at this
        exact this
      refine b76_32 ?_
      simp only [Int.toNat_natCast]
      rw [bit_c nr.1 (by omega) (by omega) (by omega), ix8 p8 i8, ix8 i8 p8, w32_of (x := h 48 i - t) (by omega) (by omega)]
      simp only [Int.toNat_natCast]
      have jp := hJP p i p8 i8
      have pj := hJP i p i8 p8
      have x1 := dJ_r k1 m20 p i
      have x2 := dP_r (z := z) k2 m8 p i
      have x3 := dP_r (z := z) k2 m8 i p
      rw [jp.2, pj.2]
      refine br_i (fun q => absurd q (by rw [hn]; omega)) (fun _ => an_i (by omega) (by omega) (br_i (fun qb => an_i (by omega) (by omega) (br_i (fun qx => an_i (by omega) (by omega) (b76_101 ?_)) (fun qx => an_i (by omega) (by omega) (b76_101 ?_)))) (fun qb => ?_)))
      · rw [ix8 p8 i8]
        simp only [Int.toNat_natCast]
        have m1 := mul_a2 (l := sm (dJ a b l p i) N1 + sm (dP a2 b2 l2 z p i) N2) (x := h 48 i - t) (by omega) (by omega) (by omega) (by omega)
        rw [jp.1, w32_of (x := sm (dJ a b l p i) N1 + sm (dP a2 b2 l2 z p i) N2) (by omega) (by omega), w32_of (x := (sm (dJ a b l p i) N1 + sm (dP a2 b2 l2 z p i) N2) * (h 48 i - t)) (by omega) (by omega)]
        refine an_i (by omega) (by omega) (N _ ?_)
        unfold cqT
        rw [if_pos (by simpa using qb), if_neg (by omega)]
      · rw [ix8 p8 i8]
        simp only [Int.toNat_natCast]
        have m1 := mul_a2 (l := sm (dJ a b l p i) N1 + sm (dP a2 b2 l2 z i p) N2) (x := h 48 i - t) (by omega) (by omega) (by omega) (by omega)
        rw [jp.1, w32_of (x := sm (dJ a b l p i) N1 + sm (dP a2 b2 l2 z i p) N2) (by omega) (by omega), w32_of (x := (sm (dJ a b l p i) N1 + sm (dP a2 b2 l2 z i p) N2) * (h 48 i - t)) (by omega) (by omega)]
        refine an_i (by omega) (by omega) (N _ ?_)
        unfold cqT
        rw [if_pos (by simpa using qb), if_pos (by omega)]
      · have := N 0 (by unfold cqT; rw [if_neg (by simpa using qb)])
        rw [Int.add_zero, w32_of (by omega) (by omega)] at this
        exact this
  refine b76_0 (an_i (by omega) (by omega) (an_i (by omega) (by omega) (an_i (by omega) (by omega) (c_sent (by omega) (by omega) t0 t6 hr h31 h4 g1.2.1 g1.2.2 (b76_27 ?_)))))
  show X (d + 1) 76 32 [some (P 44), some (I p), some (I t), some (I (w32 (h 45 p - TS h p t))), some (I 0), none, none] [] h Q
  rw [w32_of (by omega) (by omega)]
  have := L n 0 (by omega)
  simp only [sm, Int.add_zero] at this
  exact this
end CLS
