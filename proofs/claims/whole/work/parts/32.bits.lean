/-! bits of natural numbers, as the machine's ints have them -/
theorem nb_and (a b : Nat) : nI a &&& nI b = nI (a &&& b) := by
  apply Int32.toBitVec_inj.1
  show BitVec.ofNat 32 a &&& BitVec.ofNat 32 b = BitVec.ofNat 32 (a &&& b)
  apply BitVec.eq_of_getLsbD_eq
  intro i hi
  simp [hi]
theorem nb_or (a b : Nat) : nI a ||| nI b = nI (a ||| b) := by
  apply Int32.toBitVec_inj.1
  show BitVec.ofNat 32 a ||| BitVec.ofNat 32 b = BitVec.ofNat 32 (a ||| b)
  apply BitVec.eq_of_getLsbD_eq
  intro i hi
  simp [hi]
theorem nb_xor (a b : Nat) : nI a ^^^ nI b = nI (a ^^^ b) := by
  apply Int32.toBitVec_inj.1
  show BitVec.ofNat 32 a ^^^ BitVec.ofNat 32 b = BitVec.ofNat 32 (a ^^^ b)
  apply BitVec.eq_of_getLsbD_eq
  intro i hi
  simp [hi]
theorem nb_not (x y : Int32) : x &&& (y ^^^ (-1)) = x ^^^ (x &&& y) := by
  apply Int32.toBitVec_inj.1
  rw [Int32.toBitVec_and, Int32.toBitVec_xor, Int32.toBitVec_xor, Int32.toBitVec_and]
  have e : (-1 : Int32).toBitVec = BitVec.allOnes 32 := by decide
  rw [e]
  apply BitVec.eq_of_getLsbD_eq
  intro i hi
  rw [BitVec.getLsbD_and, BitVec.getLsbD_xor, BitVec.getLsbD_xor, BitVec.getLsbD_and, BitVec.getLsbD_allOnes]
  have e2 : decide (i < 32) = true := by simp [hi]
  rw [e2]
  cases x.toBitVec.getLsbD i <;> cases y.toBitVec.getLsbD i <;> rfl
theorem sl_n : ∀ n, n < 32 → ((nI n &&& 31).toBitVec.smod 32).toNat = n := by decide +kernel
theorem ofI_n (a : Nat) : Int32.ofInt (a : Int) = nI a := Int32.ofInt_eq_ofNat
theorem bAnd_n {a b : Nat} (ha : a < 2 ^ 31) : bAnd (a : Int) (b : Int) = ((a &&& b : Nat) : Int) := by
  unfold bAnd
  rw [ofI_n, ofI_n, nb_and, nI_toInt (by rw [Nat.and_comm]; exact Nat.and_lt_two_pow _ ha)]
theorem bOr_n {a b : Nat} (ha : a < 2 ^ 31) (hb : b < 2 ^ 31) : bOr (a : Int) (b : Int) = ((a ||| b : Nat) : Int) := by
  unfold bOr
  rw [ofI_n, ofI_n, nb_or, nI_toInt (Nat.or_lt_two_pow ha hb)]
theorem bXor_n {a b : Nat} (ha : a < 2 ^ 31) (hb : b < 2 ^ 31) : bXor (a : Int) (b : Int) = ((a ^^^ b : Nat) : Int) := by
  unfold bXor
  rw [ofI_n, ofI_n, nb_xor, nI_toInt (Nat.xor_lt_two_pow ha hb)]
theorem bShr_n {a k : Nat} (ha : a < 2 ^ 31) (hk : k < 32) : bShr (a : Int) (k : Int) = ((a / 2 ^ k : Nat) : Int) := by
  unfold bShr
  have h2 : a / 2 ^ k ≤ a := Nat.div_le_self _ _
  rw [ofI_n, ofI_n, pk_shrN ha _ k (sl_n k hk), nI_toInt (by omega)]
theorem bShl_n {a k : Nat} (ha : a * 2 ^ k < 2 ^ 31) (hk : k < 32) : bShl (a : Int) (k : Int) = ((a * 2 ^ k : Nat) : Int) := by
  unfold bShl
  rw [ofI_n, ofI_n, pk_shlN _ k (sl_n k hk) (by omega), nI_toInt ha]
theorem bNot_n {a b : Nat} (ha : a < 2 ^ 31) (hb : b < 2 ^ 31) : bAnd (a : Int) (bXor (b : Int) (-1)) = ((a ^^^ (a &&& b) : Nat) : Int) := by
  unfold bAnd bXor
  rw [Int32.ofInt_toInt, ofI_n, ofI_n]
  have e : Int32.ofInt (-1) = -1 := by decide
  rw [e, nb_not, nb_and, nb_xor, nI_toInt (Nat.xor_lt_two_pow ha (by rw [Nat.and_comm]; exact Nat.and_lt_two_pow _ ha))]
/-- bit i of an int that isn't negative -/
def bit (x : Int) (i : Nat) : Bool := x.toNat.testBit i
theorem bit_c {x i : Int} (h0 : 0 ≤ x) (h1 : x < 2147483648) (h2 : 0 ≤ i) (h3 : i < 32) : (bAnd (bShr x i) 1 = 0) = (bit x i.toNat = false) := by
  obtain ⟨a, rfl⟩ := Int.eq_ofNat_of_zero_le h0
  obtain ⟨k, rfl⟩ := Int.eq_ofNat_of_zero_le h2
  have hd : a / 2 ^ k ≤ a := Nat.div_le_self _ _
  rw [bShr_n (by omega) (by omega)]
  have e : (1 : Int) = ((1 : Nat) : Int) := rfl
  rw [e, bAnd_n (by omega)]
  unfold bit
  simp only [Int.toNat_natCast]
  rw [Nat.and_one_is_mod]
  have t : Nat.testBit a k = decide (a / 2 ^ k % 2 = 1) := by
    rw [← Nat.testBit_zero, Nat.testBit_div_two_pow, Nat.zero_add]
  rw [t]
  apply propext
  have := Nat.mod_two_eq_zero_or_one (a / 2 ^ k)
  constructor
  · intro q
    have : a / 2 ^ k % 2 = 0 := by omega
    simp [this]
  · intro q
    have : ¬ a / 2 ^ k % 2 = 1 := by simpa using q
    omega
theorem bit_or {x y : Int} (h0 : 0 ≤ x) (h1 : x < 2147483648) (g0 : 0 ≤ y) (g1 : y < 2147483648) (i : Nat) : bit (bOr x y) i = (bit x i || bit y i) := by
  obtain ⟨a, rfl⟩ := Int.eq_ofNat_of_zero_le h0
  obtain ⟨k, rfl⟩ := Int.eq_ofNat_of_zero_le g0
  rw [bOr_n (by omega) (by omega)]
  unfold bit
  simp only [Int.toNat_natCast, Nat.testBit_or]
theorem bor_r {n : Nat} {x y : Int} (hn : n ≤ 31) (h0 : 0 ≤ x) (h1 : x < 2 ^ n) (g0 : 0 ≤ y) (g1 : y < 2 ^ n) : 0 ≤ bOr x y ∧ bOr x y < 2 ^ n := by
  obtain ⟨a, rfl⟩ := Int.eq_ofNat_of_zero_le h0
  obtain ⟨k, rfl⟩ := Int.eq_ofNat_of_zero_le g0
  have hp : 2 ^ n ≤ 2 ^ 31 := Nat.pow_le_pow_right (by decide) hn
  have e1 : a < 2 ^ n := by exact_mod_cast h1
  have e2 : k < 2 ^ n := by exact_mod_cast g1
  rw [bOr_n (by omega) (by omega)]
  refine ⟨by omega, ?_⟩
  exact_mod_cast Nat.or_lt_two_pow e1 e2
theorem shl1 {i : Int} (h0 : 0 ≤ i) (h1 : i < 31) : bShl 1 i = 2 ^ i.toNat := by
  obtain ⟨k, rfl⟩ := Int.eq_ofNat_of_zero_le h0
  have e : (1 : Int) = ((1 : Nat) : Int) := rfl
  have hp : 2 ^ k ≤ 2 ^ 30 := Nat.pow_le_pow_right (by decide) (by omega)
  rw [e, bShl_n (by omega) (by omega)]
  simp
theorem bit_1 {i : Int} (h0 : 0 ≤ i) (h1 : i < 31) (j : Nat) : bit (bShl 1 i) j = decide (i.toNat = j) := by
  rw [shl1 h0 h1]
  unfold bit
  have e : ((2 : Int) ^ i.toNat).toNat = 2 ^ i.toNat := by
    have : ((2 : Int) ^ i.toNat) = ((2 ^ i.toNat : Nat) : Int) := by simp
    rw [this, Int.toNat_natCast]
  rw [e, Nat.testBit_two_pow]
theorem shl1_r {n : Nat} {i : Int} (hn : n ≤ 31) (h0 : 0 ≤ i) (h1 : i < n) : 0 ≤ bShl 1 i ∧ bShl 1 i < 2 ^ n := by
  rw [shl1 h0 (by omega)]
  have hp : 2 ^ i.toNat < 2 ^ n := Nat.pow_lt_pow_right (by decide) (by omega)
  constructor
  · exact Int.pow_nonneg (by decide)
  · exact_mod_cast hp
theorem bit_not {x y : Int} (h0 : 0 ≤ x) (h1 : x < 2147483648) (g0 : 0 ≤ y) (g1 : y < 2147483648) (j : Nat) : bit (bAnd x (bXor y (-1))) j = (bit x j && !bit y j) := by
  obtain ⟨a, rfl⟩ := Int.eq_ofNat_of_zero_le h0
  obtain ⟨k, rfl⟩ := Int.eq_ofNat_of_zero_le g0
  rw [bNot_n (by omega) (by omega)]
  unfold bit
  simp only [Int.toNat_natCast, Nat.testBit_xor, Nat.testBit_and]
  cases a.testBit j <;> simp
theorem bnot_r {n : Nat} {x y : Int} (hn : n ≤ 31) (h0 : 0 ≤ x) (h1 : x < 2 ^ n) (g0 : 0 ≤ y) (g1 : y < 2147483648) : 0 ≤ bAnd x (bXor y (-1)) ∧ bAnd x (bXor y (-1)) < 2 ^ n := by
  obtain ⟨a, rfl⟩ := Int.eq_ofNat_of_zero_le h0
  obtain ⟨k, rfl⟩ := Int.eq_ofNat_of_zero_le g0
  have hp : 2 ^ n ≤ 2 ^ 31 := Nat.pow_le_pow_right (by decide) hn
  have e1 : a < 2 ^ n := by exact_mod_cast h1
  rw [bNot_n (by omega) (by omega)]
  refine ⟨by omega, ?_⟩
  exact_mod_cast Nat.xor_lt_two_pow e1 (by rw [Nat.and_comm]; exact Nat.and_lt_two_pow _ e1)
theorem bit_0 (j : Nat) : bit 0 j = false := by unfold bit; simp
theorem bit_z {n : Nat} {x : Int} (h0 : 0 ≤ x) (h1 : x < 2 ^ n) (H : ∀ j, j < n → bit x j = false) : x = 0 := by
  obtain ⟨a, rfl⟩ := Int.eq_ofNat_of_zero_le h0
  have e1 : a < 2 ^ n := by exact_mod_cast h1
  have : a = 0 := by
    apply Nat.eq_of_testBit_eq
    intro j
    rw [Nat.zero_testBit]
    by_cases hj : j < n
    · have := H j hj
      unfold bit at this
      simpa using this
    · exact Nat.testBit_lt_two_pow (Nat.lt_of_lt_of_le e1 (Nat.pow_le_pow_right (by decide) (by omega)))
  omega
theorem bit_o {n j : Nat} {x : Int} (h0 : 0 ≤ x) (h1 : x < 2 ^ n) (hj : n ≤ j) : bit x j = false := by
  obtain ⟨a, rfl⟩ := Int.eq_ofNat_of_zero_le h0
  have e1 : a < 2 ^ n := by exact_mod_cast h1
  unfold bit
  exact Nat.testBit_lt_two_pow (Nat.lt_of_lt_of_le e1 (Nat.pow_le_pow_right (by decide) hj))
theorem bit_e {x y : Int} (h0 : 0 ≤ x) (g0 : 0 ≤ y) (H : ∀ j, bit x j = bit y j) : x = y := by
  obtain ⟨a, rfl⟩ := Int.eq_ofNat_of_zero_le h0
  obtain ⟨k, rfl⟩ := Int.eq_ofNat_of_zero_le g0
  have : a = k := Nat.eq_of_testBit_eq (fun j => by have := H j; unfold bit at this; simpa using this)
  rw [this]
/-- all of the first n -/
theorem bit_all {n : Int} (h0 : 0 ≤ n) (h1 : n < 31) (j : Nat) : bit (w32 (bShl 1 n - 1)) j = decide ((j : Int) < n) := by
  rw [shl1 h0 h1]
  obtain ⟨k, rfl⟩ := Int.eq_ofNat_of_zero_le h0
  have hp : 2 ^ k ≤ 2 ^ 30 := Nat.pow_le_pow_right (by decide) (by omega)
  have hq : 0 < 2 ^ k := Nat.two_pow_pos k
  have e : ((2 : Int) ^ ((k : Int)).toNat) - 1 = ((2 ^ k - 1 : Nat) : Int) := by
    rw [Int.toNat_natCast]
    have : ((2 : Int) ^ k) = ((2 ^ k : Nat) : Int) := by simp
    rw [this]; omega
  rw [e, w32_of (by omega) (by omega)]
  unfold bit
  rw [Int.toNat_natCast, Nat.testBit_two_pow_sub_one]
  simp
theorem all_r {n : Int} (h0 : 0 ≤ n) (h1 : n < 31) : 0 ≤ w32 (bShl 1 n - 1) ∧ w32 (bShl 1 n - 1) < 2 ^ n.toNat := by
  rw [shl1 h0 h1]
  obtain ⟨k, rfl⟩ := Int.eq_ofNat_of_zero_le h0
  have hp : 2 ^ k ≤ 2 ^ 30 := Nat.pow_le_pow_right (by decide) (by omega)
  have hq : 0 < 2 ^ k := Nat.two_pow_pos k
  have e : ((2 : Int) ^ ((k : Int)).toNat) = ((2 ^ k : Nat) : Int) := by simp
  rw [e, w32_of (by omega) (by omega)]
  omega
