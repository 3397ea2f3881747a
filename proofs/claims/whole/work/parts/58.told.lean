/-! what a kept text tells: both sides -/
def envC (h : HP) (W hr : Nat) : Nat → Int := fun w => if w = 10 then h 34 hr else if w = 11 then (hr : Int) else if (w : Int) < h 2 0 then h W w else 0
theorem xor1 (s : Nat) : s ^^^ 1 = 2 * (s / 2) + (s + 1) % 2 := by
  have h1 : (s ^^^ 1) / 2 = s / 2 := by rw [Nat.xor_div_two]; simp
  have h2 : (s ^^^ 1) % 2 = 1 ↔ ¬ (s % 2 = 1 ↔ 1 % 2 = 1) := Nat.xor_mod_two_eq_one
  omega
theorem or1 (s : Nat) : s ||| 1 = 2 * (s / 2) + 1 := by
  have h1 : (s ||| 1) / 2 = s / 2 := by rw [Nat.or_div_two]; simp
  have h2 : (s ||| 1) % 2 = 1 := by rw [Nat.or_mod_two_eq_one]; exact Or.inr rfl
  omega
section ST
variable {s : Nat}
theorem k_and1 (hs : s < 65536) : bAnd (s : Int) 1 = ((s % 2 : Nat) : Int) := by
  have e : (1 : Int) = ((1 : Nat) : Int) := rfl
  rw [e, bAnd_n (by omega), Nat.and_one_is_mod]
theorem k_shr (hs : s < 65536) : bShr (s : Int) 1 = ((s / 2 : Nat) : Int) := by
  have e : (1 : Int) = ((1 : Nat) : Int) := rfl
  rw [e, bShr_n (by omega) (by decide)]
theorem k_shl (hs : s < 65536) : bShl (s : Int) 1 = ((2 * s : Nat) : Int) := by
  have e : (1 : Int) = ((1 : Nat) : Int) := rfl
  rw [e, bShl_n (by omega) (by decide)]
  congr 1
  omega
theorem k_xor (hs : s < 65536) : bXor (s : Int) 1 = ((2 * (s / 2) + (s + 1) % 2 : Nat) : Int) := by
  have e : (1 : Int) = ((1 : Nat) : Int) := rfl
  rw [e, bXor_n (by omega) (by decide), xor1]
theorem k_m2 (hs : s < 65536) : bAnd (s : Int) (-2) = ((2 * (s / 2) : Nat) : Int) := by
  have e : (-2 : Int) = bXor ((1 : Nat) : Int) (-1) := by decide
  rw [e, bNot_n (by omega) (by decide), Nat.and_one_is_mod]
  congr 1
  rcases Nat.mod_two_eq_zero_or_one s with c | c
  · rw [c, Nat.xor_zero]; omega
  · rw [c, xor1]; omega
theorem k_or (hs : s < 1048576) (y : Nat) (hy : y < 2) : bOr (s : Int) (y : Int) = ((if y = 0 then s else 2 * (s / 2) + 1 : Nat) : Int) := by
  rw [bOr_n (by omega) (by omega)]
  congr 1
  have : y = 0 ∨ y = 1 := by omega
  rcases this with c | c
  · subst c; simp
  · subst c; rw [or1]; simp
end ST
theorem k_msk {x : Nat} (hx : x < 2 ^ 31) : bAnd (x : Int) 1023 = ((x % 1024 : Nat) : Int) ∧ bShr (x : Int) 20 = ((x / 1048576 : Nat) : Int) ∧ bAnd (bShr (x : Int) 12) 15 = ((x / 4096 % 16 : Nat) : Int) ∧ bAnd (bShr (x : Int) 10) 3 = ((x / 1024 % 4 : Nat) : Int) := by
  have e1 : (1023 : Int) = ((2 ^ 10 - 1 : Nat) : Int) := by decide
  have e2 : (15 : Int) = ((2 ^ 4 - 1 : Nat) : Int) := by decide
  have e3 : (3 : Int) = ((2 ^ 2 - 1 : Nat) : Int) := by decide
  have e4 : (20 : Int) = ((20 : Nat) : Int) := rfl
  have e5 : (12 : Int) = ((12 : Nat) : Int) := rfl
  have e6 : (10 : Int) = ((10 : Nat) : Int) := rfl
  refine ⟨?_, ?_, ?_, ?_⟩
  · rw [e1, bAnd_n hx, Nat.and_two_pow_sub_one_eq_mod]
  · rw [e4, bShr_n hx (by decide)]
  · rw [e5, bShr_n hx (by decide), e2, bAnd_n (Nat.lt_of_le_of_lt (Nat.div_le_self _ _) hx), Nat.and_two_pow_sub_one_eq_mod]
  · rw [e6, bShr_n hx (by decide), e3, bAnd_n (Nat.lt_of_le_of_lt (Nat.div_le_self _ _) hx), Nat.and_two_pow_sub_one_eq_mod]
set_option maxHeartbeats 4000000 in
theorem c_holdsa {d : Nat} {h : HP} {Q : PV → HP → Prop} {x hr : Nat} (hx : x < 2 ^ 31) (hr1 : hr < 12) (n8 : h 2 0 ≤ 8) (sg2 : x / 1024 % 4 ≤ 2) (H : Q (I (b2i (cmpF (envC h 53 hr (x / 4096 % 16)) ((x / 1024 % 4 : Nat) : Int) ((x % 1024 : Nat) : Int)))) h) : X (d + 1) 29 0 [some (P 36), some (I (x : Int)), some (P 53), some (I (hr : Int)), none, none, none] [] h Q := by
  obtain ⟨k1, k2, k3, k4⟩ := k_msk hx
  have K : ∀ v5 : Int, v5 = envC h 53 hr (x / 4096 % 16) → ∀ v4, X (d + 1) 29 70 [some (P 36), some (I (x : Int)), some (P 53), some (I (hr : Int)), some (I v4), some (I v5), none] [] h Q := by
    intro v5 e5 v4
    rw [← e5] at H
    refine b29a_70 ?_
    rw [k1, k4]
    generalize x % 1024 = num at *
    generalize x / 1024 % 4 = sg at *
    have ew : w32 ((sg : Int) - 1) = (sg : Int) - 1 := w32_of (by omega) (by omega)
    have hs : sg = 0 ∨ sg = 1 ∨ sg = 2 := by omega
    refine z221 (br_i (fun q => br_i (fun q2 => b29a_88 ?_) (fun q2 => b29a_88 ?_)) (fun q => b29a_88 ?_))
    all_goals rw [ew]
    all_goals clear ew
    · rcases hs with e | e | e <;> subst e
      · refine br_i (fun _ => ?_) (fun x => absurd (by decide) x)
        unfold cmpF at H
        rw [if_pos (by decide), decide_eq_false (by omega)] at H; exact H
      · refine br_i (fun _ => ?_) (fun x => absurd (by decide) x)
        unfold cmpF at H
        rw [if_neg (by decide), if_pos (by decide), decide_eq_false q2] at H; exact H
      · refine br_i (fun x => absurd (by decide) x) (fun _ => ?_)
        unfold cmpF at H
        rw [if_neg (by decide), if_neg (by decide), decide_eq_true (by omega)] at H; exact H
    · rcases hs with e | e | e <;> subst e
      · refine br_i (fun _ => ?_) (fun x => absurd (by decide) x)
        unfold cmpF at H
        rw [if_pos (by decide), decide_eq_false (by omega)] at H; exact H
      · refine br_i (fun x => absurd (by decide) x) (fun _ => ?_)
        unfold cmpF at H
        rw [if_neg (by decide), if_pos (by decide), decide_eq_true (Classical.not_not.mp q2)] at H; exact H
      · refine br_i (fun _ => ?_) (fun x => absurd (by decide) x)
        unfold cmpF at H
        rw [if_neg (by decide), if_neg (by decide), decide_eq_false (by omega)] at H; exact H
    · rcases hs with e | e | e <;> subst e
      · refine br_i (fun x => absurd (by decide) x) (fun _ => ?_)
        unfold cmpF at H
        rw [if_pos (by decide), decide_eq_true (by omega)] at H; exact H
      · refine br_i (fun _ => ?_) (fun x => absurd (by decide) x)
        unfold cmpF at H
        rw [if_neg (by decide), if_pos (by decide), decide_eq_false (by omega)] at H; exact H
      · refine br_i (fun _ => ?_) (fun x => absurd (by decide) x)
        unfold cmpF at H
        rw [if_neg (by decide), if_neg (by decide), decide_eq_false (by omega)] at H; exact H
  refine b29a_0 ?_
  rw [k3]
  simp only [Int.toNat_natCast]
  unfold envC at K
  generalize x / 4096 % 16 = w at *
  refine br_i (fun q => br_i (fun q2 => br_i (fun q3 => K 0 ?_ _) (fun q3 => an_i (by omega) (by omega) (K _ ?_ _))) (fun q2 => K _ ?_ _)) (fun q => an_i (by omega) (by omega) (K _ ?_ _))
  · rw [if_neg (by omega), if_neg (by omega), if_neg (by omega)]
  · rw [if_neg (by omega), if_neg (by omega), if_pos (by omega)]
  · rw [if_neg (by omega), if_pos (by omega)]
  · rw [if_pos (by omega)]
set_option maxHeartbeats 4000000 in
theorem c_tolda {d : Nat} {h : HP} {Q : PV → HP → Prop} {t hr : Nat} (t12 : t < 12) (hr1 : hr < 12) (n8 : h 2 0 ≤ 8) (L : List Int) (h40 : h 40 t = L.length) (l40 : L.length ≤ 40) (h39 : ∀ j, j < L.length → h 39 (40 * t + j) = L.getD j 0) (hL : ∀ x ∈ L, stpR x) (hf : 3 * fcS L ≤ 40) (H : Q (I (tolF (envC h 53 hr) L 0)) h) : X (d + 2) 28 0 [some (P 36), some (I (t : Int)), some (P 53), some (I (hr : Int)), none, none, none] [] h Q := by
  have LO : ∀ (M : List Int) (i s : Nat), i + M.length = L.length → (∀ j, j < M.length → L.getD (i + j) 0 = M.getD j 0) → (∀ x ∈ M, stpR x) → (s / 2 + 1) * 2 ^ (fcS M + 1) ≤ 2 ^ 15 → Q (I (tolF (envC h 53 hr) M s)) h → X (d + 2) 28 9 [some (P 36), some (I (t : Int)), some (P 53), some (I (hr : Int)), some (I (s : Int)), some (I ((40 * t + i : Nat) : Int)), none] [] h Q := by
    intro M
    induction M with
    | nil =>
      intro i s hi hM hX hB HQ
      refine b28a_9 (an_i (by omega) (by omega) ?_)
      simp only [Int.toNat_natCast]
      have hi' : i = L.length := by simpa using hi
      rw [h40, w32_of (x := (t : Int) * 40) (by omega) (by omega), w32_of (by omega) (by omega)]
      exact br_i (fun _ => HQ) (fun q => absurd (by omega) q)
    | cons x M ih =>
      intro i s hi hM hX hB HQ
      have hi' : i + (M.length + 1) = L.length := hi
      have hx := hX x (by simp)
      unfold stpR at hx
      obtain ⟨y, rfl⟩ := Int.eq_ofNat_of_zero_le (show 0 ≤ x by omega)
      have e39 : h 39 (40 * t + i) = (y : Int) := by
        rw [h39 i (by omega)]
        have := hM 0 (by simp)
        simpa using this
      have hM' : ∀ j, j < M.length → L.getD (i + 1 + j) 0 = M.getD j 0 := fun j hj => by
        have := hM (j + 1) (by simp; omega)
        rw [show i + 1 + j = i + (j + 1) by omega]
        simpa using this
      have hX' : ∀ x ∈ M, stpR x := fun z hz => hX z (by simp [hz])
      have y31 : y < 2 ^ 31 := by omega
      obtain ⟨k1, k2, k3, k4⟩ := k_msk y31
      have hpw : 2 ^ (fcS M + 1) ≥ 1 := Nat.one_le_two_pow
      have efc : fcS ((y : Int) :: M) = (if (y : Int) / 1048576 = 1 then 1 else 0) + fcS M := rfl
      have s16 : s < 65536 := by
        have hp : 2 ^ (fcS ((y : Int) :: M) + 1) ≥ 1 := Nat.one_le_two_pow
        have : s / 2 + 1 ≤ (s / 2 + 1) * 2 ^ (fcS ((y : Int) :: M) + 1) := Nat.le_mul_of_pos_right _ (by omega)
        omega
      have NX : ∀ (s' : Nat) (v6 : Int), (s' / 2 + 1) * 2 ^ (fcS M + 1) ≤ 2 ^ 15 → Q (I (tolF (envC h 53 hr) M s')) h → X (d + 2) 28 160 [some (P 36), some (I (t : Int)), some (P 53), some (I (hr : Int)), some (I (s' : Int)), some (I ((40 * t + i : Nat) : Int)), some (I v6)] [] h Q := by
        intro s' v6 hB' HQ'
        refine b28a_160 ?_
        rw [w32_n (by omega)]
        exact ih (i + 1) s' (by omega) hM' hX' hB' HQ'
      -- steps that leave the bound
      have BN : ¬ (y : Int) / 1048576 = 1 → ∀ s' : Nat, s' / 2 ≤ s / 2 → (s' / 2 + 1) * 2 ^ (fcS M + 1) ≤ 2 ^ 15 := by
        intro hk s' hs'
        rw [efc, if_neg hk, Nat.zero_add] at hB
        exact Nat.le_trans (Nat.mul_le_mul_right _ (by omega)) hB
      refine b28a_9 (an_i (by omega) (by omega) ?_)
      simp only [Int.toNat_natCast]
      rw [h40, w32_of (x := (t : Int) * 40) (by omega) (by omega), w32_of (x := (t : Int) * 40 + (L.length : Int)) (by omega) (by omega), e39, k2]
      refine br_i (fun q => absurd q (by omega)) (fun _ => an_i (by omega) (by omega) ⟨fun q => ?_, fun q => ?_, fun q => ?_, fun q => ?_, fun q => ?_⟩)
      · have hT : tolF (envC h 53 hr) ((y : Int) :: M) s = (if (s : Int) % 2 = 0 then tolF (envC h 53 hr) M 0 else (y : Int) % 1024) := if_neg (by omega)
        rw [hT] at HQ
        rw [k_and1 s16]
        refine br_i (fun q2 => ?_) (fun q2 => ?_)
        · rw [if_pos (by omega)] at HQ
          exact NX 0 _ (BN (by omega) 0 (by omega)) HQ
        · rw [if_neg (by omega)] at HQ
          rw [k1]; exact HQ
      · have q1 : (y : Int) / 1048576 = 1 := by omega
        have hT : tolF (envC h 53 hr) ((y : Int) :: M) s = tolF (envC h 53 hr) M (run1 (envC h 53 hr) s y) := if_pos (by omega)
        rw [hT] at HQ
        unfold run1 at HQ
        rw [if_pos q1] at HQ
        have ey : ((y : Int) / 4096 % 16).toNat = y / 4096 % 16 := by omega
        rw [ey] at HQ
        refine c_holdsa (by omega) hr1 n8 (by omega) (b28a_80 ?_)
        have e5 : ((y / 1024 % 4 : Nat) : Int) = (y : Int) / 1024 % 4 := by omega
        have e6 : ((y % 1024 : Nat) : Int) = (y : Int) % 1024 := by omega
        rw [e5, e6, k_shl s16]
        have BF : ∀ c : Nat, c < 2 → ((2 * s + c) / 2 + 1) * 2 ^ (fcS M + 1) ≤ 2 ^ 15 := by
          intro c hc
          rw [efc, if_pos q1, show 1 + fcS M + 1 = (fcS M + 1) + 1 by omega, Nat.pow_succ] at hB
          have : ((2 * s + c) / 2 + 1) * 2 ^ (fcS M + 1) ≤ (s / 2 + 1) * (2 ^ (fcS M + 1) * 2) := by
            rw [Nat.mul_comm (2 ^ (fcS M + 1)) 2, ← Nat.mul_assoc]
            exact Nat.mul_le_mul_right _ (by omega)
          omega
        cases qc : cmpF (envC h 53 hr (y / 4096 % 16)) ((y : Int) / 1024 % 4) ((y : Int) % 1024)
        · rw [qc] at HQ
          refine br_i (fun _ => b28a_88 ?_) (fun x => absurd rfl x)
          have e7 := k_or (s := 2 * s) (by omega) 0 (by decide)
          have e8 : ((0 : Nat) : Int) = 0 := rfl
          rw [e8] at e7
          rw [e7, if_pos rfl]
          refine NX _ _ (BF 0 (by decide)) ?_
          rw [show ((2 * s : Nat) : Int) = 2 * (s : Int) + b2i false by simp [b2i]]
          exact HQ
        · rw [qc] at HQ
          refine br_i (fun x => absurd x (by decide)) (fun _ => b28a_88 ?_)
          have e7 := k_or (s := 2 * s) (by omega) 1 (by decide)
          have e8 : ((1 : Nat) : Int) = 1 := rfl
          rw [e8] at e7
          rw [e7, if_neg (by decide), show 2 * (2 * s / 2) + 1 = 2 * s + 1 by omega]
          refine NX _ _ (BF 1 (by decide)) ?_
          rw [show ((2 * s + 1 : Nat) : Int) = 2 * (s : Int) + b2i true by simp [b2i]]
          exact HQ
      · have hT : tolF (envC h 53 hr) ((y : Int) :: M) s = tolF (envC h 53 hr) M (run1 (envC h 53 hr) s y) := if_pos (by omega)
        rw [hT] at HQ
        unfold run1 at HQ
        rw [if_neg (by omega), if_pos (by omega)] at HQ
        rw [k_xor s16]
        refine NX _ _ (BN (by omega) _ (by omega)) ?_
        rw [show ((2 * (s / 2) + (s + 1) % 2 : Nat) : Int) = (if (s : Int) % 2 = 0 then (s : Int) + 1 else (s : Int) - 1) by split <;> omega]
        exact HQ
      · have hT : tolF (envC h 53 hr) ((y : Int) :: M) s = tolF (envC h 53 hr) M (run1 (envC h 53 hr) s y) := if_pos (by omega)
        rw [hT] at HQ
        unfold run1 at HQ
        rw [if_neg (by omega), if_neg (by omega), if_pos (by omega)] at HQ
        rw [k_and1 s16, k_shr s16, k_m2 (s := s / 2) (by omega)]
        refine br_i (fun q2 => b28a_124 (NX _ _ (BN (by omega) _ (by omega)) ?_)) (fun q2 => b28a_124 (NX _ _ (BN (by omega) _ (by omega)) ?_))
        · rw [if_neg (by omega)] at HQ
          rw [show ((s / 2 : Nat) : Int) = (s : Int) / 2 by omega]; exact HQ
        · rw [if_pos (by omega)] at HQ
          rw [show ((2 * (s / 2 / 2) : Nat) : Int) = 2 * ((s : Int) / 4) by omega]; exact HQ
      · have hT : tolF (envC h 53 hr) ((y : Int) :: M) s = tolF (envC h 53 hr) M (run1 (envC h 53 hr) s y) := if_pos (by omega)
        rw [hT] at HQ
        unfold run1 at HQ
        rw [if_neg (by omega), if_neg (by omega), if_neg (by omega)] at HQ
        rw [k_and1 s16, k_shr s16, k_or (s := s / 2) (by omega) (s % 2) (by omega)]
        rcases Nat.mod_two_eq_zero_or_one s with c | c
        · rw [if_pos c]
          rw [if_pos (by omega)] at HQ
          refine NX _ _ (BN (by omega) _ (by omega)) ?_
          rw [show ((s / 2 : Nat) : Int) = (s : Int) / 2 by omega]; exact HQ
        · rw [if_neg (by omega)]
          rw [if_neg (by omega)] at HQ
          refine NX _ _ (BN (by omega) _ (by omega)) ?_
          rw [show ((2 * (s / 2 / 2) + 1 : Nat) : Int) = 2 * ((s : Int) / 4) + 1 by omega]; exact HQ
  refine b28a_0 ?_
  have e0 : w32 ((t : Int) * 40) = ((40 * t + 0 : Nat) : Int) := by rw [w32_of (by omega) (by omega)]; omega
  rw [e0]
  refine LO L 0 0 (by omega) (fun j hj => by rw [Nat.zero_add]) hL ?_ H
  have : 2 ^ (fcS L + 1) ≤ 2 ^ 14 := Nat.pow_le_pow_right (by decide) (by omega)
  omega
set_option maxHeartbeats 4000000 in
theorem c_holdsb {d : Nat} {h : HP} {Q : PV → HP → Prop} {x hr : Nat} (hx : x < 2 ^ 31) (hr1 : hr < 12) (n8 : h 2 0 ≤ 8) (sg2 : x / 1024 % 4 ≤ 2) (H : Q (I (b2i (cmpF (envC h 48 hr (x / 4096 % 16)) ((x / 1024 % 4 : Nat) : Int) ((x % 1024 : Nat) : Int)))) h) : X (d + 1) 29 0 [some (P 36), some (I (x : Int)), some (P 48), some (I (hr : Int)), none, none, none] [] h Q := by
  obtain ⟨k1, k2, k3, k4⟩ := k_msk hx
  have K : ∀ v5 : Int, v5 = envC h 48 hr (x / 4096 % 16) → ∀ v4, X (d + 1) 29 70 [some (P 36), some (I (x : Int)), some (P 48), some (I (hr : Int)), some (I v4), some (I v5), none] [] h Q := by
    intro v5 e5 v4
    rw [← e5] at H
    refine b29b_70 ?_
    rw [k1, k4]
    generalize x % 1024 = num at *
    generalize x / 1024 % 4 = sg at *
    have ew : w32 ((sg : Int) - 1) = (sg : Int) - 1 := w32_of (by omega) (by omega)
    have hs : sg = 0 ∨ sg = 1 ∨ sg = 2 := by omega
    refine z221 (br_i (fun q => br_i (fun q2 => b29b_88 ?_) (fun q2 => b29b_88 ?_)) (fun q => b29b_88 ?_))
    all_goals rw [ew]
    all_goals clear ew
    · rcases hs with e | e | e <;> subst e
      · refine br_i (fun _ => ?_) (fun x => absurd (by decide) x)
        unfold cmpF at H
        rw [if_pos (by decide), decide_eq_false (by omega)] at H; exact H
      · refine br_i (fun _ => ?_) (fun x => absurd (by decide) x)
        unfold cmpF at H
        rw [if_neg (by decide), if_pos (by decide), decide_eq_false q2] at H; exact H
      · refine br_i (fun x => absurd (by decide) x) (fun _ => ?_)
        unfold cmpF at H
        rw [if_neg (by decide), if_neg (by decide), decide_eq_true (by omega)] at H; exact H
    · rcases hs with e | e | e <;> subst e
      · refine br_i (fun _ => ?_) (fun x => absurd (by decide) x)
        unfold cmpF at H
        rw [if_pos (by decide), decide_eq_false (by omega)] at H; exact H
      · refine br_i (fun x => absurd (by decide) x) (fun _ => ?_)
        unfold cmpF at H
        rw [if_neg (by decide), if_pos (by decide), decide_eq_true (Classical.not_not.mp q2)] at H; exact H
      · refine br_i (fun _ => ?_) (fun x => absurd (by decide) x)
        unfold cmpF at H
        rw [if_neg (by decide), if_neg (by decide), decide_eq_false (by omega)] at H; exact H
    · rcases hs with e | e | e <;> subst e
      · refine br_i (fun x => absurd (by decide) x) (fun _ => ?_)
        unfold cmpF at H
        rw [if_pos (by decide), decide_eq_true (by omega)] at H; exact H
      · refine br_i (fun _ => ?_) (fun x => absurd (by decide) x)
        unfold cmpF at H
        rw [if_neg (by decide), if_pos (by decide), decide_eq_false (by omega)] at H; exact H
      · refine br_i (fun _ => ?_) (fun x => absurd (by decide) x)
        unfold cmpF at H
        rw [if_neg (by decide), if_neg (by decide), decide_eq_false (by omega)] at H; exact H
  refine b29b_0 ?_
  rw [k3]
  simp only [Int.toNat_natCast]
  unfold envC at K
  generalize x / 4096 % 16 = w at *
  refine br_i (fun q => br_i (fun q2 => br_i (fun q3 => K 0 ?_ _) (fun q3 => an_i (by omega) (by omega) (K _ ?_ _))) (fun q2 => K _ ?_ _)) (fun q => an_i (by omega) (by omega) (K _ ?_ _))
  · rw [if_neg (by omega), if_neg (by omega), if_neg (by omega)]
  · rw [if_neg (by omega), if_neg (by omega), if_pos (by omega)]
  · rw [if_neg (by omega), if_pos (by omega)]
  · rw [if_pos (by omega)]
set_option maxHeartbeats 4000000 in
theorem c_toldb {d : Nat} {h : HP} {Q : PV → HP → Prop} {t hr : Nat} (t12 : t < 12) (hr1 : hr < 12) (n8 : h 2 0 ≤ 8) (L : List Int) (h40 : h 40 t = L.length) (l40 : L.length ≤ 40) (h39 : ∀ j, j < L.length → h 39 (40 * t + j) = L.getD j 0) (hL : ∀ x ∈ L, stpR x) (hf : 3 * fcS L ≤ 40) (H : Q (I (tolF (envC h 48 hr) L 0)) h) : X (d + 2) 28 0 [some (P 36), some (I (t : Int)), some (P 48), some (I (hr : Int)), none, none, none] [] h Q := by
  have LO : ∀ (M : List Int) (i s : Nat), i + M.length = L.length → (∀ j, j < M.length → L.getD (i + j) 0 = M.getD j 0) → (∀ x ∈ M, stpR x) → (s / 2 + 1) * 2 ^ (fcS M + 1) ≤ 2 ^ 15 → Q (I (tolF (envC h 48 hr) M s)) h → X (d + 2) 28 9 [some (P 36), some (I (t : Int)), some (P 48), some (I (hr : Int)), some (I (s : Int)), some (I ((40 * t + i : Nat) : Int)), none] [] h Q := by
    intro M
    induction M with
    | nil =>
      intro i s hi hM hX hB HQ
      refine b28b_9 (an_i (by omega) (by omega) ?_)
      simp only [Int.toNat_natCast]
      have hi' : i = L.length := by simpa using hi
      rw [h40, w32_of (x := (t : Int) * 40) (by omega) (by omega), w32_of (by omega) (by omega)]
      exact br_i (fun _ => HQ) (fun q => absurd (by omega) q)
    | cons x M ih =>
      intro i s hi hM hX hB HQ
      have hi' : i + (M.length + 1) = L.length := hi
      have hx := hX x (by simp)
      unfold stpR at hx
      obtain ⟨y, rfl⟩ := Int.eq_ofNat_of_zero_le (show 0 ≤ x by omega)
      have e39 : h 39 (40 * t + i) = (y : Int) := by
        rw [h39 i (by omega)]
        have := hM 0 (by simp)
        simpa using this
      have hM' : ∀ j, j < M.length → L.getD (i + 1 + j) 0 = M.getD j 0 := fun j hj => by
        have := hM (j + 1) (by simp; omega)
        rw [show i + 1 + j = i + (j + 1) by omega]
        simpa using this
      have hX' : ∀ x ∈ M, stpR x := fun z hz => hX z (by simp [hz])
      have y31 : y < 2 ^ 31 := by omega
      obtain ⟨k1, k2, k3, k4⟩ := k_msk y31
      have hpw : 2 ^ (fcS M + 1) ≥ 1 := Nat.one_le_two_pow
      have efc : fcS ((y : Int) :: M) = (if (y : Int) / 1048576 = 1 then 1 else 0) + fcS M := rfl
      have s16 : s < 65536 := by
        have hp : 2 ^ (fcS ((y : Int) :: M) + 1) ≥ 1 := Nat.one_le_two_pow
        have : s / 2 + 1 ≤ (s / 2 + 1) * 2 ^ (fcS ((y : Int) :: M) + 1) := Nat.le_mul_of_pos_right _ (by omega)
        omega
      have NX : ∀ (s' : Nat) (v6 : Int), (s' / 2 + 1) * 2 ^ (fcS M + 1) ≤ 2 ^ 15 → Q (I (tolF (envC h 48 hr) M s')) h → X (d + 2) 28 160 [some (P 36), some (I (t : Int)), some (P 48), some (I (hr : Int)), some (I (s' : Int)), some (I ((40 * t + i : Nat) : Int)), some (I v6)] [] h Q := by
        intro s' v6 hB' HQ'
        refine b28b_160 ?_
        rw [w32_n (by omega)]
        exact ih (i + 1) s' (by omega) hM' hX' hB' HQ'
      -- steps that leave the bound
      have BN : ¬ (y : Int) / 1048576 = 1 → ∀ s' : Nat, s' / 2 ≤ s / 2 → (s' / 2 + 1) * 2 ^ (fcS M + 1) ≤ 2 ^ 15 := by
        intro hk s' hs'
        rw [efc, if_neg hk, Nat.zero_add] at hB
        exact Nat.le_trans (Nat.mul_le_mul_right _ (by omega)) hB
      refine b28b_9 (an_i (by omega) (by omega) ?_)
      simp only [Int.toNat_natCast]
      rw [h40, w32_of (x := (t : Int) * 40) (by omega) (by omega), w32_of (x := (t : Int) * 40 + (L.length : Int)) (by omega) (by omega), e39, k2]
      refine br_i (fun q => absurd q (by omega)) (fun _ => an_i (by omega) (by omega) ⟨fun q => ?_, fun q => ?_, fun q => ?_, fun q => ?_, fun q => ?_⟩)
      · have hT : tolF (envC h 48 hr) ((y : Int) :: M) s = (if (s : Int) % 2 = 0 then tolF (envC h 48 hr) M 0 else (y : Int) % 1024) := if_neg (by omega)
        rw [hT] at HQ
        rw [k_and1 s16]
        refine br_i (fun q2 => ?_) (fun q2 => ?_)
        · rw [if_pos (by omega)] at HQ
          exact NX 0 _ (BN (by omega) 0 (by omega)) HQ
        · rw [if_neg (by omega)] at HQ
          rw [k1]; exact HQ
      · have q1 : (y : Int) / 1048576 = 1 := by omega
        have hT : tolF (envC h 48 hr) ((y : Int) :: M) s = tolF (envC h 48 hr) M (run1 (envC h 48 hr) s y) := if_pos (by omega)
        rw [hT] at HQ
        unfold run1 at HQ
        rw [if_pos q1] at HQ
        have ey : ((y : Int) / 4096 % 16).toNat = y / 4096 % 16 := by omega
        rw [ey] at HQ
        refine c_holdsb (by omega) hr1 n8 (by omega) (b28b_80 ?_)
        have e5 : ((y / 1024 % 4 : Nat) : Int) = (y : Int) / 1024 % 4 := by omega
        have e6 : ((y % 1024 : Nat) : Int) = (y : Int) % 1024 := by omega
        rw [e5, e6, k_shl s16]
        have BF : ∀ c : Nat, c < 2 → ((2 * s + c) / 2 + 1) * 2 ^ (fcS M + 1) ≤ 2 ^ 15 := by
          intro c hc
          rw [efc, if_pos q1, show 1 + fcS M + 1 = (fcS M + 1) + 1 by omega, Nat.pow_succ] at hB
          have : ((2 * s + c) / 2 + 1) * 2 ^ (fcS M + 1) ≤ (s / 2 + 1) * (2 ^ (fcS M + 1) * 2) := by
            rw [Nat.mul_comm (2 ^ (fcS M + 1)) 2, ← Nat.mul_assoc]
            exact Nat.mul_le_mul_right _ (by omega)
          omega
        cases qc : cmpF (envC h 48 hr (y / 4096 % 16)) ((y : Int) / 1024 % 4) ((y : Int) % 1024)
        · rw [qc] at HQ
          refine br_i (fun _ => b28b_88 ?_) (fun x => absurd rfl x)
          have e7 := k_or (s := 2 * s) (by omega) 0 (by decide)
          have e8 : ((0 : Nat) : Int) = 0 := rfl
          rw [e8] at e7
          rw [e7, if_pos rfl]
          refine NX _ _ (BF 0 (by decide)) ?_
          rw [show ((2 * s : Nat) : Int) = 2 * (s : Int) + b2i false by simp [b2i]]
          exact HQ
        · rw [qc] at HQ
          refine br_i (fun x => absurd x (by decide)) (fun _ => b28b_88 ?_)
          have e7 := k_or (s := 2 * s) (by omega) 1 (by decide)
          have e8 : ((1 : Nat) : Int) = 1 := rfl
          rw [e8] at e7
          rw [e7, if_neg (by decide), show 2 * (2 * s / 2) + 1 = 2 * s + 1 by omega]
          refine NX _ _ (BF 1 (by decide)) ?_
          rw [show ((2 * s + 1 : Nat) : Int) = 2 * (s : Int) + b2i true by simp [b2i]]
          exact HQ
      · have hT : tolF (envC h 48 hr) ((y : Int) :: M) s = tolF (envC h 48 hr) M (run1 (envC h 48 hr) s y) := if_pos (by omega)
        rw [hT] at HQ
        unfold run1 at HQ
        rw [if_neg (by omega), if_pos (by omega)] at HQ
        rw [k_xor s16]
        refine NX _ _ (BN (by omega) _ (by omega)) ?_
        rw [show ((2 * (s / 2) + (s + 1) % 2 : Nat) : Int) = (if (s : Int) % 2 = 0 then (s : Int) + 1 else (s : Int) - 1) by split <;> omega]
        exact HQ
      · have hT : tolF (envC h 48 hr) ((y : Int) :: M) s = tolF (envC h 48 hr) M (run1 (envC h 48 hr) s y) := if_pos (by omega)
        rw [hT] at HQ
        unfold run1 at HQ
        rw [if_neg (by omega), if_neg (by omega), if_pos (by omega)] at HQ
        rw [k_and1 s16, k_shr s16, k_m2 (s := s / 2) (by omega)]
        refine br_i (fun q2 => b28b_124 (NX _ _ (BN (by omega) _ (by omega)) ?_)) (fun q2 => b28b_124 (NX _ _ (BN (by omega) _ (by omega)) ?_))
        · rw [if_neg (by omega)] at HQ
          rw [show ((s / 2 : Nat) : Int) = (s : Int) / 2 by omega]; exact HQ
        · rw [if_pos (by omega)] at HQ
          rw [show ((2 * (s / 2 / 2) : Nat) : Int) = 2 * ((s : Int) / 4) by omega]; exact HQ
      · have hT : tolF (envC h 48 hr) ((y : Int) :: M) s = tolF (envC h 48 hr) M (run1 (envC h 48 hr) s y) := if_pos (by omega)
        rw [hT] at HQ
        unfold run1 at HQ
        rw [if_neg (by omega), if_neg (by omega), if_neg (by omega)] at HQ
        rw [k_and1 s16, k_shr s16, k_or (s := s / 2) (by omega) (s % 2) (by omega)]
        rcases Nat.mod_two_eq_zero_or_one s with c | c
        · rw [if_pos c]
          rw [if_pos (by omega)] at HQ
          refine NX _ _ (BN (by omega) _ (by omega)) ?_
          rw [show ((s / 2 : Nat) : Int) = (s : Int) / 2 by omega]; exact HQ
        · rw [if_neg (by omega)]
          rw [if_neg (by omega)] at HQ
          refine NX _ _ (BN (by omega) _ (by omega)) ?_
          rw [show ((2 * (s / 2 / 2) + 1 : Nat) : Int) = 2 * ((s : Int) / 4) + 1 by omega]; exact HQ
  refine b28b_0 ?_
  have e0 : w32 ((t : Int) * 40) = ((40 * t + 0 : Nat) : Int) := by rw [w32_of (by omega) (by omega)]; omega
  rw [e0]
  refine LO L 0 0 (by omega) (fun j hj => by rw [Nat.zero_add]) hL ?_ H
  have : 2 ^ (fcS L + 1) ≤ 2 ^ 14 := Nat.pow_le_pow_right (by decide) (by omega)
  omega
