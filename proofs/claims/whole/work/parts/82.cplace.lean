/-! boxes placed best: rows of plates; the class -/
section P82
variable {d : Nat} {h g k : HP} {Q : PV → HP → Prop}
def rnk (bs : Nat) : Nat → Nat
  | 0 => 0
  | j + 1 => rnk bs j + (if bs.testBit j = true then 1 else 0)
theorem rnk_m (bs : Nat) : ∀ (n j : Nat), rnk bs j ≤ rnk bs (j + n)
  | 0, _ => Nat.le_refl _
  | n + 1, j => by
    have := rnk_m bs n j
    show rnk bs j ≤ rnk bs (j + n) + _
    omega
theorem rnk_l {bs i j : Nat} (h : i ≤ j) : rnk bs i ≤ rnk bs j := by
  have := rnk_m bs (j - i) i
  rw [show i + (j - i) = j by omega] at this
  exact this
theorem rnk_t {bs j : Nat} (h : bs.testBit j = true) : rnk bs (j + 1) = rnk bs j + 1 := by
  show rnk bs j + _ = _
  rw [if_pos h]
theorem rnk_f {bs j : Nat} (h : ¬ bs.testBit j = true) : rnk bs (j + 1) = rnk bs j := by
  show rnk bs j + _ = _
  rw [if_neg h]; rfl
theorem rnk_s (bs : Nat) : ∀ n : Nat, sm (bitF bs) n = (rnk bs n : Int)
  | 0 => rfl
  | n + 1 => by
    show sm (bitF bs) n + bitF bs n = _
    rw [rnk_s bs n]
    unfold bitF
    by_cases q : bs.testBit n = true
    · rw [if_pos q, rnk_t q]; rfl
    · rw [if_neg q, rnk_f q]; simp
theorem tbt_8 {bs j : Nat} (hb : bs < 256) (hj : 8 ≤ j) : bs.testBit j = false := Nat.testBit_lt_two_pow (Nat.lt_of_lt_of_le hb (Nat.pow_le_pow_right (by decide) hj : 2 ^ 8 ≤ 2 ^ j))
theorem rnk_c {bs : Nat} (hb : bs < 256) : cnt bs = (rnk bs 8 : Int) := by
  unfold cnt
  rw [rnk_s]
  have e : ∀ j, 8 ≤ j → rnk bs (j + 1) = rnk bs j := fun j hj => rnk_f (by rw [tbt_8 hb hj]; decide)
  rw [e 11 (by decide), e 10 (by decide), e 9 (by decide), e 8 (by decide)]
/-- digit i of a row of M -/
def dg (M r i : Nat) : Nat := r / 8 ^ (M - 1 - i) % 8
theorem dg_8 (M r i : Nat) : dg M r i < 8 := Nat.mod_lt _ (by decide)
def vld (ps M r : Nat) : Prop := (∀ i, i < M → ps.testBit (dg M r i) = true) ∧ ∀ i j, i < j → j < M → dg M r i ≠ dg M r j
def plc (h : HP) (bs M r : Nat) : Nat → Int := fun j => if bs.testBit j = true then ((dg M r (rnk bs j) : Nat) : Int) else h 23 j
def mxw (w : Nat → Int) : Nat → Int
  | 0 => 0
  | p + 1 => if mxw w p < w p then w p else mxw w p
theorem mxw_0 (w : Nat → Int) : ∀ n, 0 ≤ mxw w n
  | 0 => Int.le_refl _
  | n + 1 => by
    have := mxw_0 w n
    unfold mxw
    split <;> omega
theorem mxw_c {w w' : Nat → Int} : ∀ {n : Nat}, (∀ p, p < n → w p = w' p) → mxw w n = mxw w' n
  | 0, _ => rfl
  | n + 1, H => by
    unfold mxw
    rw [mxw_c (fun p hp => H p (by omega)), H n (by omega)]
noncomputable def RVS (h : HP) (hr : Nat) (st : Nat → Int) : Nat → Int := RV h (h 34 hr) (h 30 5) 100 100 (h 25) (hnF h) (h 21) (h 9) st (h 15) z0F
noncomputable def hot (h : HP) (hr bs M r : Nat) : Int := mxw (RVS h hr (plc h bs M r)) (h 2 0).toNat
theorem RVS_c {hr : Nat} {st st' : Nat → Int} (H : ∀ j : Nat, (j : Int) < h 22 2 → st j = st' j) : RVS h hr st = RVS h hr st' := RV_c (SCT_of (SCR_r h)) (fun k hk => ⟨Iff.rfl, H k hk⟩) (fun _ _ => Iff.rfl) (fun _ _ => Iff.rfl) (fun _ _ => ⟨rfl, rfl⟩) (fun _ _ => rfl)
/-- the best of the rows ahead of N, the first of them -/
def BPN (H : Nat → Int) (V : Nat → Prop) (N : Nat) (v : Int) (r : Nat) : Prop := (v = -9 ∧ ∀ s, s < N → ¬ V s) ∨ ((r < N ∧ V r ∧ v = H r ∧ 0 ≤ H r) ∧ ∀ s, s < N → V s → (H r < H s ∨ (H r = H s ∧ r ≤ s)))
theorem BPN_u {H : Nat → Int} {V : Nat → Prop} {N : Nat} {v v' : Int} {r r' : Nat} (a : BPN H V N v r) (b : BPN H V N v' r') : v = v' ∧ (v ≠ -9 → r = r') := by
  rcases a with ⟨a1, a2⟩ | ⟨⟨a1, a2, a3, a4⟩, a5⟩
  · rcases b with ⟨b1, b2⟩ | ⟨⟨b1, b2, b3, b4⟩, b5⟩
    · exact ⟨by omega, fun x => absurd a1 x⟩
    · exact absurd b2 (a2 r' b1)
  · rcases b with ⟨b1, b2⟩ | ⟨⟨b1, b2, b3, b4⟩, b5⟩
    · exact absurd a2 (b2 r a1)
    · have x := a5 r' b1 b2
      have y := b5 r a1 a2
      have e : r = r' := by omega
      subst e
      exact ⟨by omega, fun _ => rfl⟩
theorem BPN_no {H : Nat → Int} {V : Nat → Prop} {N N' : Nat} {v : Int} {r : Nat} (a : BPN H V N v r) (hN : N ≤ N') (hn : ∀ s, N ≤ s → s < N' → ¬ V s) : BPN H V N' v r := by
  rcases a with ⟨a1, a2⟩ | ⟨⟨a1, a2, a3, a4⟩, a5⟩
  · refine Or.inl ⟨a1, fun s hs => ?_⟩
    by_cases q : s < N
    · exact a2 s q
    · exact hn s (by omega) hs
  · refine Or.inr ⟨⟨by omega, a2, a3, a4⟩, fun s hs hv => ?_⟩
    by_cases q : s < N
    · exact a5 s q hv
    · exact absurd hv (hn s (by omega) hs)
theorem BPN_kp {H : Nat → Int} {V : Nat → Prop} {N : Nat} {v : Int} {r : Nat} (a : BPN H V N v r) (h1 : ¬ v = -9) (h2 : v ≤ H N) : BPN H V (N + 1) v r := by
  rcases a with ⟨a1, a2⟩ | ⟨⟨a1, a2, a3, a4⟩, a5⟩
  · exact absurd a1 h1
  · refine Or.inr ⟨⟨by omega, a2, a3, a4⟩, fun s hs hv => ?_⟩
    by_cases q : s < N
    · exact a5 s q hv
    · have e : s = N := by omega
      subst e
      omega
theorem BPN_nw {H : Nat → Int} {V : Nat → Prop} {N : Nat} {v : Int} {r : Nat} (a : BPN H V N v r) (h1 : v = -9 ∨ H N < v) (h2 : V N) (h3 : 0 ≤ H N) : BPN H V (N + 1) (H N) N := by
  refine Or.inr ⟨⟨by omega, h2, rfl, h3⟩, fun s hs hv => ?_⟩
  by_cases q : s < N
  · rcases a with ⟨a1, a2⟩ | ⟨⟨a1, a2, a3, a4⟩, a5⟩
    · exact absurd hv (a2 s q)
    · have := a5 s q hv
      omega
  · have e : s = N := by omega
    subst e
    exact Or.inr ⟨rfl, Nat.le_refl _⟩
theorem BPN_9 {H : Nat → Int} {V : Nat → Prop} {N : Nat} {v : Int} {r : Nat} (a : BPN H V N v r) : v = -9 ∨ 0 ≤ v := by
  rcases a with ⟨a1, a2⟩ | ⟨⟨a1, a2, a3, a4⟩, a5⟩
  · exact Or.inl a1
  · exact Or.inr (by omega)
theorem sh1 {p : Nat} (hp : p < 8) : bShl 1 (p : Int) = ((2 ^ p : Nat) : Int) ∧ 2 ^ p < 256 := by
  have h1 : 2 ^ p ≤ 2 ^ 7 := Nat.pow_le_pow_right (by decide) (by omega)
  have e7 : (2 : Nat) ^ 7 = 128 := by decide
  have := bShl_n (a := 1) (k := p) (by omega) (by omega)
  rw [Nat.one_mul] at this
  exact ⟨this, by omega⟩
theorem and_bit {x p : Nat} (hx : x < 256) (hp : p < 8) : bAnd (x : Int) (bShl 1 (p : Int)) = 0 ↔ x.testBit p = false := by
  rw [(sh1 hp).1, bAnd_n (by omega)]
  constructor
  · intro e
    have e' : x &&& 2 ^ p = 0 := by omega
    have := Nat.testBit_and x (2 ^ p) p
    rw [e', Nat.zero_testBit, Nat.testBit_two_pow_self, Bool.and_true] at this
    exact this.symm
  · intro e
    have : x &&& 2 ^ p = 0 := by
      refine Nat.eq_of_testBit_eq (fun k => ?_)
      rw [Nat.testBit_and, Nat.testBit_two_pow, Nat.zero_testBit]
      by_cases q : p = k
      · subst q; rw [e]; rfl
      · simp [q]
    rw [this]; rfl
theorem not_n {x u : Nat} (hx : x < 256) (hu : u < 256) : ∃ y : Nat, y < 256 ∧ bAnd (x : Int) (bXor (u : Int) (-1)) = (y : Int) ∧ ∀ k, y.testBit k = (x.testBit k && !u.testBit k) := by
  refine ⟨x ^^^ (x &&& u), Nat.xor_lt_two_pow (n := 8) hx (Nat.and_lt_two_pow _ hu), bNot_n (by omega) (by omega), fun k => ?_⟩
  rw [Nat.testBit_xor, Nat.testBit_and]
  cases x.testBit k <;> cases u.testBit k <;> rfl
theorem dg_e {M r i : Nat} (hM : M ≤ 3) (hi : i < M) (hr : r < 512) : bAnd (bShr (r : Int) ((3 * (M - 1 - i) : Nat) : Int)) 7 = ((dg M r i : Nat) : Int) := by
  rw [bShr_n (by omega) (by omega)]
  have hd : r / 2 ^ (3 * (M - 1 - i)) ≤ r := Nat.div_le_self _ _
  have e : bAnd ((r / 2 ^ (3 * (M - 1 - i)) : Nat) : Int) 7 = ((r / 2 ^ (3 * (M - 1 - i)) &&& 7 : Nat) : Int) := bAnd_n (b := 7) (by omega)
  have e2 : r / 2 ^ (3 * (M - 1 - i)) &&& 7 = r / 2 ^ (3 * (M - 1 - i)) % 8 := Nat.and_two_pow_sub_one_eq_mod _ 3
  rw [e, e2, Nat.pow_mul]
  rfl
/-- a scene as now, boxes standing by st -/
def SCP (h g : HP) (hr : Nat) (st : Nat → Int) : Prop := SCE g (h 34 hr) (h 30 5) 100 100 (h 25) (hnF h) (h 21) (h 9) st (h 15) z0F
set_option maxHeartbeats 4000000 in
theorem c_put {hr bs ps M r : Nat} {g0 : HP} {st0 : Nat → Int} (hb : bs < 256) (hp : ps < 256) (eM : rnk bs 8 = M) (hM : M ≤ 3) (hr5 : r < 512) (hS : SCP h g0 hr st0) (hst : ∀ j, ¬ bs.testBit j = true → st0 j = h 23 j) (H1 : vld ps M r → ∀ g st, (∀ q, q ≠ 42 → g q = g0 q) → SCP h g hr st → (∀ j, j < 8 → st j = plc h bs M r j) → (∀ j, ¬ bs.testBit j = true → st j = h 23 j) → Q (I 1) g) (H0 : ¬ vld ps M r → ∀ g st, (∀ q, q ≠ 42 → g q = g0 q) → SCP h g hr st → (∀ j, ¬ bs.testBit j = true → st j = h 23 j) → Q (I 0) g) : X d 61 0 [some (P 41), some (I (bs : Int)), some (I (ps : Int)), some (I (r : Int)), some (I (M : Int)), none, none, none, none] [] g0 Q := by
  have L : ∀ m b : Nat, b + m = 8 → ∀ (u : Nat) (g : HP) (st : Nat → Int), u < 256 → (∀ x, u.testBit x = true ↔ ∃ i, i < rnk bs b ∧ dg M r i = x) → (∀ i, i < rnk bs b → ps.testBit (dg M r i) = true) → (∀ i j, i < j → j < rnk bs b → dg M r i ≠ dg M r j) → (∀ q, q ≠ 42 → g q = g0 q) → SCP h g hr st → (∀ j, j < b → bs.testBit j = true → st j = ((dg M r (rnk bs j) : Nat) : Int)) → (∀ j, ¬ bs.testBit j = true → st j = h 23 j) → X d 61 9 [some (P 41), some (I (bs : Int)), some (I (ps : Int)), some (I (r : Int)), some (I (M : Int)), some (I (u : Int)), some (I ((rnk bs b : Nat) : Int)), some (I (b : Int)), none] [] g Q := by
    intro m
    induction m with
    | zero =>
      intro b hm u g st hu hu1 hv1 hv2 hf hS hs1 hs2
      have eb : b = 8 := by omega
      subst eb
      rw [eM] at hv1 hv2
      refine b61_9 (br_i (fun _ => H1 ⟨hv1, hv2⟩ g st hf hS (fun j hj => ?_) hs2) (fun q => absurd (by omega) q))
      unfold plc
      by_cases q : bs.testBit j = true
      · rw [if_pos q]; exact hs1 j hj q
      · rw [if_neg q]; exact hs2 j q
    | succ m ih =>
      intro b hm u g st hu hu1 hv1 hv2 hf hS hs1 hs2
      have rb : rnk bs (b + 1) ≤ rnk bs 8 := rnk_l (by omega)
      refine b61_9 (br_i (fun q => absurd q (by omega)) (fun _ => br_i (fun q => ?_) (fun q => ?_)))
      · have eb : rnk bs b = M := by
          have : rnk bs b ≤ rnk bs 8 := rnk_l (by omega)
          omega
        rw [eb] at hv1 hv2
        refine H1 ⟨hv1, hv2⟩ g st hf hS (fun j hj => ?_) hs2
        unfold plc
        by_cases q : bs.testBit j = true
        · rw [if_pos q]
          refine hs1 j ?_ q
          apply Classical.byContradiction
          intro n
          have x1 : rnk bs b ≤ rnk bs j := rnk_l (by omega)
          have x2 := rnk_t q
          have x3 : rnk bs (j + 1) ≤ rnk bs 8 := rnk_l (by omega)
          omega
        · rw [if_neg q]; exact hs2 j q
      · rw [bit1F (by omega) (by omega)]
        refine br_i (fun qb => ?_) (fun qb => b61_86 ?_)
        · have tb : bs.testBit b = true := by
            apply Classical.byContradiction
            intro n
            apply qb
            unfold bitF
            rw [if_neg n]
          have x2 := rnk_t tb
          have iM : rnk bs b < M := by omega
          have ew : w32 (3 * w32 ((M : Int) - w32 (((rnk bs b : Nat) : Int) + 1))) = ((3 * (M - 1 - rnk bs b) : Nat) : Int) := by
            rw [w32_n (by omega), w32_of (x := (M : Int) - ((rnk bs b + 1 : Nat) : Int)) (by omega) (by omega), w32_of (by omega) (by omega)]
            omega
          have d8 := dg_8 M r (rnk bs b)
          obtain ⟨y, y1, y2, y3⟩ := not_n hp hu
          rw [ew, dg_e hM iM hr5, y2, w32_n (by omega)]
          have ab := and_bit (x := y) (p := dg M r (rnk bs b)) y1 d8
          rw [y3] at ab
          refine br_i (fun qf => an_i (by omega) (by omega) (b61_86 ?_)) (fun qf => H0 (fun hv => ?_) g st hf hS hs2)
          · have fr : ps.testBit (dg M r (rnk bs b)) = true ∧ u.testBit (dg M r (rnk bs b)) = false := by
              cases e1 : ps.testBit (dg M r (rnk bs b)) <;> cases e2 : u.testBit (dg M r (rnk bs b))
              · exact absurd (ab.mpr (by rw [e1]; rfl)) qf
              · exact absurd (ab.mpr (by rw [e1]; rfl)) qf
              · exact ⟨rfl, rfl⟩
              · exact absurd (ab.mpr (by rw [e1, e2]; rfl)) qf
            have s1 := sh1 d8
            rw [w32_n (by omega), s1.1, bOr_n (by omega) (by omega), ← x2]
            simp only [Int.toNat_natCast]
            refine ih (b + 1) (by omega) (u ||| 2 ^ dg M r (rnk bs b)) _ (st1 st b ((dg M r (rnk bs b) : Nat) : Int)) (Nat.or_lt_two_pow (n := 8) hu s1.2) (fun x => ?_) (fun i hi => ?_) (fun i j hij hj => ?_) (fun q hq => by rw [up_p hq]; exact hf q hq) (SCE_st (by omega) (by omega) hS) (fun j hj hjb => ?_) (fun j hjb => ?_)
            · rw [Nat.testBit_or, Nat.testBit_two_pow, x2]
              constructor
              · intro e
                cases e1 : u.testBit x
                · rw [e1] at e
                  have : dg M r (rnk bs b) = x := by simpa using e
                  exact ⟨rnk bs b, by omega, this⟩
                · obtain ⟨i, i1, i2⟩ := (hu1 x).mp e1
                  exact ⟨i, by omega, i2⟩
              · intro ⟨i, i1, i2⟩
                by_cases ei : i = rnk bs b
                · subst ei; subst i2; simp
                · rw [(hu1 x).mpr ⟨i, by omega, i2⟩]; rfl
            · rw [x2] at hi
              by_cases ei : i = rnk bs b
              · subst ei; exact fr.1
              · exact hv1 i (by omega)
            · rw [x2] at hj
              by_cases ej : j = rnk bs b
              · subst ej
                intro e
                have := (hu1 (dg M r (rnk bs b))).mpr ⟨i, hij, e⟩
                rw [fr.2] at this
                cases this
              · exact hv2 i j hij (by omega)
            · by_cases ej : j = b
              · subst ej; exact st1_s
              · rw [st1_n ej]; exact hs1 j (by omega) hjb
            · rw [st1_n (fun e => hjb (by rw [e]; exact tb))]; exact hs2 j hjb
          · have f1 := hv.1 (rnk bs b) iM
            have f2 : u.testBit (dg M r (rnk bs b)) = false := by
              cases e : u.testBit (dg M r (rnk bs b))
              · rfl
              · obtain ⟨i, i1, i2⟩ := (hu1 _).mp e
                exact absurd i2 (hv.2 i (rnk bs b) i1 iM)
            have := ab.mp (Classical.not_not.mp qf)
            rw [f1, f2] at this
            cases this
        · have tb : ¬ bs.testBit b = true := by
            intro n
            apply qb
            unfold bitF
            rw [if_pos n]; decide
          have x2 := rnk_f tb
          rw [w32_n (by omega), ← x2]
          rw [← x2] at hu1 hv1 hv2
          refine ih (b + 1) (by omega) u g st hu hu1 hv1 hv2 hf hS (fun j hj hjb => ?_) hs2
          by_cases ej : j = b
          · subst ej; exact absurd hjb tb
          · exact hs1 j (by omega) hjb
  exact b61_0 (L 8 0 rfl 0 g0 st0 (by decide) (fun x => ⟨fun e => absurd e (by rw [Nat.zero_testBit]; decide), fun ⟨i, i1, _⟩ => absurd i1 (by show ¬ i < 0; omega)⟩) (fun i hi => absurd hi (by show ¬ i < 0; omega)) (fun i j _ hj => absurd hj (by show ¬ j < 0; omega)) (fun _ _ => rfl) hS (fun j hj => absurd hj (by omega)) hst)
theorem c_hot {hr : Nat} {st : Nat → Int} (hR : R h) (a : SCR h g) (hS : SCP h g hr st) (H : ∀ k, FS g k → SCP h k hr st → Q (I (mxw (RVS h hr st) (h 2 0).toNat)) k) : X (d + 5) 63 0 [some (P 41), none, none] [] g Q := by
  have n8 : 0 ≤ h 2 0 ∧ h 2 0 ≤ 8 := (R_cnt hR).2.1
  have e2 : g 2 0 = h 2 0 := by rw [a.1 2 (by decide)]
  refine b63_0 (c_scT hR (SCT_of a) hS (fun k f hk => b63_4 ?_))
  rw [e2] at hk
  have k2 : k 2 0 = h 2 0 := by rw [f 2 (by decide), e2]
  have L : ∀ m p : Nat, p + m = (h 2 0).toNat → X (d + 5) 63 8 [some (P 41), some (I (mxw (RVS h hr st) p)), some (I (p : Int))] [] k Q := by
    intro m
    induction m with
    | zero =>
      intro p hp
      have ep : p = (h 2 0).toNat := by omega
      subst ep
      exact b63_8 (br_i (fun _ => H k f (SCE_FS f hS)) (fun q => absurd (by rw [k2]; omega) q))
    | succ m ih =>
      intro p hp
      have w : k 48 p = RVS h hr st p := (hk p (by omega)).1
      refine b63_8 (br_i (fun q => absurd q (by rw [k2]; omega)) (fun _ => an_i (by omega) (by omega) ?_))
      simp only [Int.toNat_natCast]
      rw [w]
      have N : ∀ v, v = mxw (RVS h hr st) (p + 1) → X (d + 5) 63 35 [some (P 41), some (I (mxw (RVS h hr st) p)), some (I (p : Int))] [I v] k Q := by
        intro v hv
        subst hv
        refine b63_35 ?_
        rw [w32_n (by omega)]
        exact ih (p + 1) (by omega)
      refine z224 (br_i (fun q => N _ ?_) (fun q => N _ ?_))
      · have e : mxw (RVS h hr st) (p + 1) = if mxw (RVS h hr st) p < RVS h hr st p then RVS h hr st p else mxw (RVS h hr st) p := rfl
        rw [e, if_pos q]
      · have e : mxw (RVS h hr st) (p + 1) = if mxw (RVS h hr st) p < RVS h hr st p then RVS h hr st p else mxw (RVS h hr st) p := rfl
        rw [e, if_neg q]
  exact L (h 2 0).toNat 0 (by omega)
end P82
