/-! the class's scene: settle fills the solver and solves -/
def bR (x : Int) : Nat → Int := fun k => if bit x k = true then 1 else 0
def SCN (h : HP) : Prop :=
  ((0 ≤ h 41 2 ∧ h 41 2 ≤ 1500) ∧ (0 ≤ h 41 3 ∧ h 41 3 ≤ 9) ∧ (0 ≤ h 41 4 ∧ h 41 4 ≤ 150) ∧ (0 ≤ h 41 5 ∧ h 41 5 ≤ 150)) ∧
  ((0 ≤ h 41 6 ∧ h 41 6 < 256) ∧ (0 ≤ h 41 7 ∧ h 41 7 < 256) ∧ (0 ≤ h 41 8 ∧ h 41 8 < 256) ∧ (0 ≤ h 41 10 ∧ h 41 10 < 8) ∧ (0 ≤ h 41 11 ∧ h 41 11 ≤ 999)) ∧
  ((∀ k : Nat, (k : Int) < h 22 2 → 0 ≤ h 42 k ∧ h 42 k < 8) ∧ (∀ j : Nat, (j : Int) < h 12 1 → 0 ≤ h 43 j ∧ h 43 j ≤ 99))
def drC (h : HP) (p : Nat) : Int := if h 41 9 = 0 then h 9 p else 2
def tkC (h : HP) (p : Nat) : Int := tkF (h 4) (h 5) (h 32) (h 6) (h 41 2) (h 41 3) p
def exC (h : HP) (p : Nat) : Int := if h 41 10 = p then h 41 11 else 0
def GC (h : HP) (p : Nat) : Int := tkC h p + exC h p + sm (bxF (h 24) (h 42) (bR (h 41 6)) (h 41 4) p) (h 22 2).toNat + sm (htF (h 28) (h 27) (bR (h 41 7)) p) (h 26 2).toNat
def TC (h : HP) (p : Nat) (t : Int) : Int := snt (h 31) (h 4 p) (drC h p) (sbF (h 33) (h 5) (h 41 3) (h 41 5) p) t
def ntC (h : HP) : (Nat → Int) → Nat → Int := nt (h 12 1).toNat (h 17 1).toNat (GC h) (TC h) (h 13) (h 14) (h 43) (h 18) (h 19) (h 20) (bR (h 41 8))
def FS (h g : HP) : Prop := ∀ q, (q < 44 ∨ 51 < q) → g q = h q
theorem FS_u {h g : HP} {p i : Nat} {v : Int} (H : FS h g) (h1 : 44 ≤ p) (h2 : p ≤ 51) : FS h (up2 g p i v) := fun q hq => by rw [up_p (by omega)]; exact H q hq
theorem FS_s {h g : HP} {p : Nat} {f : Nat → Int} (H : FS h g) (h1 : 44 ≤ p) (h2 : p ≤ 51) : FS h (setr g p f) := fun q hq => by rw [setr_p (by omega)]; exact H q hq
theorem FS_r (h : HP) : FS h h := fun _ _ => rfl
/-- the rows of links filled so far -/
def MTX (g : HP) (n i1 i2 : Nat) (a b l a2 b2 l2 z : Nat → Int) : Prop :=
  (∀ p q, p < 8 → q < 8 → g 50 (p * 8 + q) = sm (dJ a b l p q) i1 ∧ g 51 (p * 8 + q) = sm (dP a2 b2 l2 z p q) i2) ∧
  (∀ p, p < 8 → 0 ≤ g 49 p ∧ g 49 p < 2 ^ n) ∧
  (∀ p q, p < 8 → q < 8 → bit (g 49 p) q = bit (g 49 q) p) ∧
  (∀ p q, p < 8 → q < 8 → bit (g 49 p) q = false → sm (dJ a b l p q) i1 = 0 ∧ sm (dP a2 b2 l2 z p q) i2 = 0 ∧ sm (dP a2 b2 l2 z q p) i2 = 0)
theorem MTX_o {g g' : HP} {n i1 i2 : Nat} {a b l a2 b2 l2 z : Nat → Int} (H : MTX g n i1 i2 a b l a2 b2 l2 z) (e1 : g' 49 = g 49) (e2 : g' 50 = g 50) (e3 : g' 51 = g 51) : MTX g' n i1 i2 a b l a2 b2 l2 z := by
  unfold MTX at *
  simp only [e1, e2, e3]
  exact H
theorem j50 {f : Nat → Int} {a b p q : Nat} {l : Int} (ha : a < 8) (hb : b < 8) (hne : a ≠ b) (hp : p < 8) (hq : q < 8) : st1 (st1 f (a * 8 + b) (f (a * 8 + b) + l)) (b * 8 + a) (st1 f (a * 8 + b) (f (a * 8 + b) + l) (b * 8 + a) + l) (p * 8 + q) = f (p * 8 + q) + (if (a = p ∧ b = q) ∨ (a = q ∧ b = p) then l else 0) := by
  unfold st1
  rw [if_neg (show ¬ b * 8 + a = a * 8 + b by omega)]
  by_cases e1 : p * 8 + q = b * 8 + a
  · rw [if_pos e1, if_pos (by omega), e1]
  · rw [if_neg e1]
    by_cases e2 : p * 8 + q = a * 8 + b
    · rw [if_pos e2, if_pos (by omega), e2]
    · rw [if_neg e2, if_neg (by omega)]; omega
theorem n49 {f : Nat → Int} {n a b p q : Nat} (hn : n ≤ 8) (ha : a < n) (hb : b < n) (hne : a ≠ b) (hf : ∀ p, p < 8 → 0 ≤ f p ∧ f p < 2 ^ n) (hp : p < 8) : (0 ≤ st1 (st1 f a (bOr (f a) (bShl 1 (b : Int)))) b (bOr (f b) (bShl 1 (a : Int))) p ∧ st1 (st1 f a (bOr (f a) (bShl 1 (b : Int)))) b (bOr (f b) (bShl 1 (a : Int))) p < 2 ^ n) ∧ bit (st1 (st1 f a (bOr (f a) (bShl 1 (b : Int)))) b (bOr (f b) (bShl 1 (a : Int))) p) q = (bit (f p) q || decide ((a = p ∧ b = q) ∨ (a = q ∧ b = p))) := by
  have fa := hf a (by omega)
  have fb := hf b (by omega)
  have h31 : n ≤ 31 := by omega
  have i0 : (0 : Int) ≤ (a : Int) := by omega
  have i2 : (0 : Int) ≤ (b : Int) := by omega
  have i3 : (a : Int) < 31 := by omega
  have i4 : (b : Int) < 31 := by omega
  have i5 : (a : Int) < (n : Int) := by omega
  have i6 : (b : Int) < (n : Int) := by omega
  have P1 : ∀ q, (b = q) = ((a = a ∧ b = q) ∨ (a = q ∧ b = a)) := fun q => propext ⟨fun x => by omega, fun x => by omega⟩
  have P2 : ∀ q, (a = q) = ((a = b ∧ b = q) ∨ (a = q ∧ b = b)) := fun q => propext ⟨fun x => by omega, fun x => by omega⟩
  have P3 : ¬ p = b → ¬ p = a → ¬ ((a = p ∧ b = q) ∨ (a = q ∧ b = p)) := fun x y => by omega
  have s1 := shl1_r (n := n) (i := (a : Int)) h31 i0 i5
  have s2 := shl1_r (n := n) (i := (b : Int)) h31 i2 i6
  have b1 := bit_1 (i := (a : Int)) i0 i3 q
  have b2 := bit_1 (i := (b : Int)) i2 i4 q
  rw [Int.toNat_natCast] at b1 b2
  unfold st1
  by_cases e1 : p = b
  · rw [if_pos e1]
    refine ⟨bor_r h31 fb.1 fb.2 s1.1 s1.2, ?_⟩
    rw [bit_or fb.1 (Int.lt_of_lt_of_le fb.2 (pw31 hn)) s1.1 (Int.lt_of_lt_of_le s1.2 (pw31 hn)), b1, e1]
    congr 1
    exact decide_eq_decide.mpr (iff_of_eq (P2 q))
  · rw [if_neg e1]
    by_cases e2 : p = a
    · rw [if_pos e2]
      refine ⟨bor_r h31 fa.1 fa.2 s2.1 s2.2, ?_⟩
      rw [bit_or fa.1 (Int.lt_of_lt_of_le fa.2 (pw31 hn)) s2.1 (Int.lt_of_lt_of_le s2.2 (pw31 hn)), b2, e2]
      congr 1
      exact decide_eq_decide.mpr (iff_of_eq (P1 q))
    · rw [if_neg e2]
      refine ⟨hf p hp, ?_⟩
      have : decide ((a = p ∧ b = q) ∨ (a = q ∧ b = p)) = false := by
        simp only [decide_eq_false_iff_not]; exact P3 e1 e2
      rw [this, Bool.or_false]
theorem MTX_j {g g' : HP} {n i1 N : Nat} {a b l a2 b2 l2 z : Nat → Int} (hn : n ≤ 8) (hl : lnk n N a b l) (hi : i1 < N) (H : MTX g n i1 0 a b l a2 b2 l2 z) (e51 : g' 51 = g 51) (e50 : g' 50 = st1 (st1 (g 50) ((a i1).toNat * 8 + (b i1).toNat) (g 50 ((a i1).toNat * 8 + (b i1).toNat) + l i1)) ((b i1).toNat * 8 + (a i1).toNat) (st1 (g 50) ((a i1).toNat * 8 + (b i1).toNat) (g 50 ((a i1).toNat * 8 + (b i1).toNat) + l i1) ((b i1).toNat * 8 + (a i1).toNat) + l i1)) (e49 : g' 49 = st1 (st1 (g 49) (a i1).toNat (bOr (g 49 (a i1).toNat) (bShl 1 ((b i1).toNat : Int)))) (b i1).toNat (bOr (g 49 (b i1).toNat) (bShl 1 ((a i1).toNat : Int)))) : MTX g' n (i1 + 1) 0 a b l a2 b2 l2 z := by
  obtain ⟨H1, H2, H3, H4⟩ := H
  obtain ⟨a0, a1, b0, b1, hne, l0, l1⟩ := hl i1 hi
  have N49 := fun p q (hp : p < 8) => n49 (f := g 49) (n := n) (a := (a i1).toNat) (b := (b i1).toNat) (p := p) (q := q) hn (by omega) (by omega) (by omega) H2 hp
  have D : ∀ p q, dJ a b l p q i1 = if ((a i1).toNat = p ∧ (b i1).toNat = q) ∨ ((a i1).toNat = q ∧ (b i1).toNat = p) then l i1 else 0 := by
    intro p q
    unfold dJ
    by_cases e : (a i1 = p ∧ b i1 = q) ∨ (a i1 = q ∧ b i1 = p)
    · rw [if_pos e, if_pos (by omega)]
    · rw [if_neg e, if_neg (by omega)]
  refine ⟨fun p q hp hq => ?_, fun p hp => ?_, fun p q hp hq => ?_, fun p q hp hq hb => ?_⟩
  · refine ⟨?_, by rw [e51]; exact (H1 p q hp hq).2⟩
    rw [e50, j50 (by omega) (by omega) (by omega) hp hq, (H1 p q hp hq).1, ← D p q]; rfl
  · rw [e49]; exact (N49 p 0 hp).1
  · rw [e49, (N49 p q hp).2, (N49 q p hq).2, H3 p q hp hq]
    congr 1
    apply decide_eq_decide.mpr
    omega
  · rw [e49, (N49 p q hp).2] at hb
    have hb' : bit (g 49 p) q = false ∧ decide (((a i1).toNat = p ∧ (b i1).toNat = q) ∨ ((a i1).toNat = q ∧ (b i1).toNat = p)) = false := by
      cases h1 : bit (g 49 p) q <;> cases h2 : decide (((a i1).toNat = p ∧ (b i1).toNat = q) ∨ ((a i1).toNat = q ∧ (b i1).toNat = p)) <;> rw [h1, h2] at hb <;> first | exact ⟨rfl, rfl⟩ | exact absurd hb (by decide)
    obtain ⟨x1, x2, x3⟩ := H4 p q hp hq hb'.1
    refine ⟨?_, x2, x3⟩
    show sm (dJ a b l p q) i1 + dJ a b l p q i1 = 0
    rw [x1, D p q, if_neg (by simpa only [decide_eq_false_iff_not] using hb'.2)]; rfl
theorem MTX_j0 {g : HP} {n i1 : Nat} {a b l a2 b2 l2 z : Nat → Int} (H : MTX g n i1 0 a b l a2 b2 l2 z) (e : l i1 = 0) : MTX g n (i1 + 1) 0 a b l a2 b2 l2 z := by
  have D : ∀ p q, dJ a b l p q i1 = 0 := by
    intro p q
    unfold dJ
    split
    · exact e
    · rfl
  have S : ∀ p q, sm (dJ a b l p q) (i1 + 1) = sm (dJ a b l p q) i1 := by
    intro p q
    show sm (dJ a b l p q) i1 + dJ a b l p q i1 = _
    rw [D]; omega
  unfold MTX at *
  simp only [S]
  exact H
theorem p51 {f : Nat → Int} {a b p q : Nat} {l : Int} (ha : a < 8) (hb : b < 8) (hp : p < 8) (hq : q < 8) : st1 f (a * 8 + b) (f (a * 8 + b) + l) (p * 8 + q) = f (p * 8 + q) + (if a = p ∧ b = q then l else 0) := by
  unfold st1
  by_cases e2 : p * 8 + q = a * 8 + b
  · rw [if_pos e2, if_pos (by omega), e2]
  · rw [if_neg e2, if_neg (by omega)]; omega
theorem MTX_p {g g' : HP} {n i1 i2 N : Nat} {a b l a2 b2 l2 z : Nat → Int} (hn : n ≤ 8) (hl : lnk n N a2 b2 l2) (hi : i2 < N) (hz : z i2 = 0) (H : MTX g n i1 i2 a b l a2 b2 l2 z) (e50 : g' 50 = g 50) (e51 : g' 51 = st1 (g 51) ((a2 i2).toNat * 8 + (b2 i2).toNat) (g 51 ((a2 i2).toNat * 8 + (b2 i2).toNat) + l2 i2)) (e49 : g' 49 = st1 (st1 (g 49) (a2 i2).toNat (bOr (g 49 (a2 i2).toNat) (bShl 1 ((b2 i2).toNat : Int)))) (b2 i2).toNat (bOr (g 49 (b2 i2).toNat) (bShl 1 ((a2 i2).toNat : Int)))) : MTX g' n i1 (i2 + 1) a b l a2 b2 l2 z := by
  obtain ⟨H1, H2, H3, H4⟩ := H
  obtain ⟨a0, a1, b0, b1, hne, l0, l1⟩ := hl i2 hi
  have N49 := fun p q (hp : p < 8) => n49 (f := g 49) (n := n) (a := (a2 i2).toNat) (b := (b2 i2).toNat) (p := p) (q := q) hn (by omega) (by omega) (by omega) H2 hp
  have D : ∀ p q, dP a2 b2 l2 z p q i2 = if (a2 i2).toNat = p ∧ (b2 i2).toNat = q then l2 i2 else 0 := by
    intro p q
    unfold dP
    by_cases e : (a2 i2).toNat = p ∧ (b2 i2).toNat = q
    · rw [if_pos e, if_pos ⟨hz, by omega, by omega⟩]
    · rw [if_neg e, if_neg (by omega)]
  refine ⟨fun p q hp hq => ?_, fun p hp => ?_, fun p q hp hq => ?_, fun p q hp hq hb => ?_⟩
  · refine ⟨by rw [e50]; exact (H1 p q hp hq).1, ?_⟩
    rw [e51, p51 (by omega) (by omega) hp hq, (H1 p q hp hq).2, ← D p q]; rfl
  · rw [e49]; exact (N49 p 0 hp).1
  · rw [e49, (N49 p q hp).2, (N49 q p hq).2, H3 p q hp hq]
    congr 1
    apply decide_eq_decide.mpr
    omega
  · rw [e49, (N49 p q hp).2] at hb
    have hb' : bit (g 49 p) q = false ∧ decide (((a2 i2).toNat = p ∧ (b2 i2).toNat = q) ∨ ((a2 i2).toNat = q ∧ (b2 i2).toNat = p)) = false := by
      cases h1 : bit (g 49 p) q <;> cases h2 : decide (((a2 i2).toNat = p ∧ (b2 i2).toNat = q) ∨ ((a2 i2).toNat = q ∧ (b2 i2).toNat = p)) <;> rw [h1, h2] at hb <;> first | exact ⟨rfl, rfl⟩ | exact absurd hb (by decide)
    obtain ⟨x1, x2, x3⟩ := H4 p q hp hq hb'.1
    have hb2 : ¬ (((a2 i2).toNat = p ∧ (b2 i2).toNat = q) ∨ ((a2 i2).toNat = q ∧ (b2 i2).toNat = p)) := by simpa only [decide_eq_false_iff_not] using hb'.2
    refine ⟨x1, ?_, ?_⟩
    · show sm (dP a2 b2 l2 z p q) i2 + dP a2 b2 l2 z p q i2 = 0
      rw [x2, D p q, if_neg (by omega)]; rfl
    · show sm (dP a2 b2 l2 z q p) i2 + dP a2 b2 l2 z q p i2 = 0
      rw [x3, D q p, if_neg (by omega)]; rfl
theorem MTX_p0 {g : HP} {n i1 i2 : Nat} {a b l a2 b2 l2 z : Nat → Int} (H : MTX g n i1 i2 a b l a2 b2 l2 z) (e : ¬ z i2 = 0) : MTX g n i1 (i2 + 1) a b l a2 b2 l2 z := by
  have D : ∀ p q, dP a2 b2 l2 z p q i2 = 0 := by
    intro p q
    unfold dP
    rw [if_neg (fun x => e x.1)]
  have S : ∀ p q, sm (dP a2 b2 l2 z p q) (i2 + 1) = sm (dP a2 b2 l2 z p q) i2 := by
    intro p q
    show sm (dP a2 b2 l2 z p q) i2 + dP a2 b2 l2 z p q i2 = _
    rw [D]; omega
  unfold MTX at *
  simp only [S]
  exact H
theorem MTX_0 {g : HP} {n : Nat} {a b l a2 b2 l2 z : Nat → Int} (h49 : ∀ p, p < 8 → g 49 p = 0) (h50 : ∀ j, j < 64 → g 50 j = 0) (h51 : ∀ j, j < 64 → g 51 j = 0) : MTX g n 0 0 a b l a2 b2 l2 z := by
  refine ⟨fun p q hp hq => ⟨by rw [h50 _ (by omega)]; rfl, by rw [h51 _ (by omega)]; rfl⟩, fun p hp => ?_, fun p q hp hq => ?_, fun p q hp hq hb => ⟨rfl, rfl, rfl⟩⟩
  · rw [h49 p hp]
    have : 0 < 2 ^ n := Nat.two_pow_pos n
    exact ⟨by omega, by exact_mod_cast this⟩
  · rw [h49 p hp, h49 q hq, bit_0, bit_0]
