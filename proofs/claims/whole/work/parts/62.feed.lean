/-! pair: feed -/
section P62
variable {d : Nat} {h : HP} {Q : PV → HP → Prop} {v1 v2 : Int}
theorem bv_sh (x : BitVec 64) (s : Nat) (hs : s ≤ 56) : x.sshiftRight s &&& 255#64 = x >>> s &&& 255#64 := by
  apply BitVec.eq_of_getLsbD_eq
  intro i hi
  have e : (255#64).getLsbD i = decide (i < 8) := by
    have := (by decide : ∀ i : Fin 64, (255#64).getLsbD i.1 = decide (i.1 < 8)) ⟨i, hi⟩
    exact this
  rw [BitVec.getLsbD_and, BitVec.getLsbD_and, e, BitVec.getLsbD_sshiftRight, BitVec.getLsbD_ushiftRight]
  by_cases q : i < 8
  · have q2 : s + i < 64 := by omega
    have q3 : ¬ 64 ≤ i := by omega
    simp [q2, q3]
  · simp [q]
def byC (v : Int) (i : Nat) : Int := w32 (lAnd (lShr v (w32 (8 * (i : Int)))) 255)
def byM (v : Int) (i : Nat) : Int := w32 (lAnd (lUsh v (w32 (8 * (i : Int)))) 255)
theorem toI_and (x : BitVec 64) : 0 ≤ (x &&& 255#64).toInt ∧ (x &&& 255#64).toInt ≤ 255 := by
  have h1 : (x &&& 255#64).toNat ≤ 255 := by
    rw [BitVec.toNat_and]; exact Nat.and_le_right
  rw [BitVec.toInt_eq_toNat_cond]
  split <;> omega
theorem lA_e (a : Int) : lAnd a 255 = ((Int64.ofInt a).toBitVec &&& 255#64).toInt := rfl
theorem l64 (x : Int64) : Int64.ofInt x.toInt = x := Int64.ofInt_toInt x
theorem lSh_e (a : Int) (k : Nat) (hk : k < 8) : (Int64.ofInt (lShr a (w32 (8 * (k : Int))))).toBitVec = (Int64.ofInt a).toBitVec.sshiftRight (8 * k) := by
  unfold lShr
  rw [l64]
  match k, hk with
  | 0, _ => rfl
  | 1, _ => rfl
  | 2, _ => rfl
  | 3, _ => rfl
  | 4, _ => rfl
  | 5, _ => rfl
  | 6, _ => rfl
  | 7, _ => rfl
theorem lUs_e (a : Int) (k : Nat) (hk : k < 8) : (Int64.ofInt (lUsh a (w32 (8 * (k : Int))))).toBitVec = (Int64.ofInt a).toBitVec >>> (8 * k) := by
  unfold lUsh
  rw [l64]
  match k, hk with
  | 0, _ => rfl
  | 1, _ => rfl
  | 2, _ => rfl
  | 3, _ => rfl
  | 4, _ => rfl
  | 5, _ => rfl
  | 6, _ => rfl
  | 7, _ => rfl
theorem by_e (v : Int) (i : Nat) (hi : i < 8) : byC v i = byM v i := by
  unfold byC byM
  rw [lA_e, lA_e, lSh_e v i hi, lUs_e v i hi, bv_sh _ _ (by omega)]
theorem by_r (v : Int) (i : Nat) : 0 ≤ byC v i ∧ byC v i ≤ 255 := by
  unfold byC
  rw [lA_e]
  have := toI_and (Int64.ofInt (lShr v (w32 (8 * (i : Int))))).toBitVec
  rw [w32_of (by omega) (by omega)]
  exact this
def FDH (h : HP) (p q k a n : Nat) (b : Nat → Int) : HP := fun r j => if r = p ∧ (a ≤ j ∧ j < a + n) then b (j - a) else if r = q ∧ j = k then ((a + n : Nat) : Int) else h r j
theorem FDH_0 {p q k a : Nat} {b : Nat → Int} (e : h q k = (a : Int)) : h = FDH h p q k a 0 b := by
  funext r j
  unfold FDH
  rw [if_neg (by omega)]
  split
  · next x => rw [x.1, x.2]; exact e
  · rfl
theorem FDH_s {p q k a n : Nat} {b : Nat → Int} (hp : p ≠ q) : up2 (up2 (FDH h p q k a n b) p (a + n) (b n)) q k ((a + n + 1 : Nat) : Int) = FDH h p q k a (n + 1) b := by
  funext r j
  unfold up2 FDH
  by_cases x : r = q ∧ j = k
  · rw [if_pos x, if_neg (by omega), if_pos x]; rfl
  · rw [if_neg x, if_neg x]
    by_cases y : r = p ∧ j = a + n
    · rw [if_pos y, if_pos (by omega), y.2]; congr 1; omega
    · rw [if_neg y]
      by_cases z : r = p ∧ (a ≤ j ∧ j < a + n)
      · rw [if_pos z, if_pos (by omega)]
      · rw [if_neg z, if_neg (by omega), if_neg x]
theorem FDH_o {p q k a n r : Nat} {b : Nat → Int} (h1 : r ≠ p) (h2 : r ≠ q) : FDH h p q k a n b r = h r := by
  funext j; unfold FDH; rw [if_neg (by omega), if_neg (by omega)]
theorem FDH_q {p q k a n : Nat} {b : Nat → Int} (h1 : q ≠ p) : FDH h p q k a n b q k = ((a + n : Nat) : Int) := by
  unfold FDH; rw [if_neg (by omega), if_pos ⟨rfl, rfl⟩]
theorem FDH_k {p q k a n j : Nat} {b : Nat → Int} (h1 : q ≠ p) (h2 : j ≠ k) : FDH h p q k a n b q j = h q j := by
  unfold FDH; rw [if_neg (by omega), if_neg (by omega)]
theorem FDH_p {p q k a n : Nat} {b : Nat → Int} (h1 : p ≠ q) : FDH h p q k a n b p = fun j => if a ≤ j ∧ j < a + n then b (j - a) else h p j := by
  funext j
  unfold FDH
  by_cases x : a ≤ j ∧ j < a + n
  · rw [if_pos ⟨rfl, x⟩, if_pos x]
  · rw [if_neg (fun y => x y.2), if_neg (by omega), if_neg x]
set_option maxHeartbeats 4000000 in
theorem R_FDH (hR : R h) {a n : Nat} {b b' : Nat → Int} (hn : a + n ≤ 40) (he : ∀ i, i < n → b i = b' i) (hb : ∀ i, 0 ≤ b i ∧ b i ≤ 255) : R (FDH (FDH h 37 36 1 a n b) 102 69 46 a n b') := by
  obtain ⟨⟨r1, r2, r3, r4, r5, r6, r7, r8⟩, ⟨r9, r10, r11, r12, r13⟩, ⟨r14, r15, r16, r17, r18, r19, r20⟩, ⟨r21, r22, r23, r24, r25, r26⟩, ⟨r27, r28, r29, r30, r31⟩, ⟨r32, r33⟩, ⟨r34, r35, r36, r37, r38, r39, r40, r41, r42, r43, r44, r45⟩, ⟨r46, r47, r48⟩, ⟨r49, r50, r51, r52, r53, r54, r55⟩, ⟨r56, r57, r58, r59, r60, r61, r62, r63, r64, r65⟩, ⟨r66, r67, r68, r69, r70, r71, r72, r73, r74, r75⟩, ⟨r76, r77, r78, r79, r80, r81, r82, r83⟩, ⟨r84, r85, r86, r87, r88, r89⟩, ⟨r90, r91, r92, r93, r94, r95, r96, r97, r98⟩, ⟨r99, r100, r101, r102, r103, r104, r105, r106⟩, ⟨r107, r108, r109, r110, r111, r112, r113⟩, ⟨r114, r115, r116, r117, r118, r119, r120, r121, r122, r123⟩⟩ := id hR
  have e0 : ∀ q, (q ≠ 37 ∧ q ≠ 36 ∧ q ≠ 102 ∧ q ≠ 69) → FDH (FDH h 37 36 1 a n b) 102 69 46 a n b' q = h q := fun q hq => by rw [FDH_o hq.2.2.1 hq.2.2.2, FDH_o hq.1 hq.2.1]
  have e9 : ∀ k, k ≠ 46 → FDH (FDH h 37 36 1 a n b) 102 69 46 a n b' 69 k = h 69 k := fun k hk => by rw [FDH_k (by decide) hk, FDH_o (by decide) (by decide)]
  have e37 : FDH (FDH h 37 36 1 a n b) 102 69 46 a n b' 37 = fun j => if a ≤ j ∧ j < a + n then b (j - a) else h 37 j := by rw [FDH_o (by decide) (by decide), FDH_p (by decide)]
  have e102 : FDH (FDH h 37 36 1 a n b) 102 69 46 a n b' 102 = fun j => if a ≤ j ∧ j < a + n then b' (j - a) else h 102 j := by rw [FDH_p (by decide), FDH_o (by decide) (by decide)]
  have e36 : FDH (FDH h 37 36 1 a n b) 102 69 46 a n b' 36 1 = ((a + n : Nat) : Int) := by rw [FDH_o (by decide) (by decide), FDH_q (by decide)]
  have e46 : FDH (FDH h 37 36 1 a n b) 102 69 46 a n b' 69 46 = ((a + n : Nat) : Int) := FDH_q (by decide)
  generalize FDH (FDH h 37 36 1 a n b) 102 69 46 a n b' = g at *
  unfold R
  simp only [e0 0 (by decide), e0 2 (by decide), e0 3 (by decide), e0 4 (by decide), e0 5 (by decide), e0 6 (by decide), e0 7 (by decide), e0 8 (by decide), e0 9 (by decide), e0 10 (by decide), e0 11 (by decide), e0 12 (by decide), e0 13 (by decide), e0 14 (by decide), e0 15 (by decide), e0 17 (by decide), e0 18 (by decide), e0 19 (by decide), e0 20 (by decide), e0 21 (by decide), e0 22 (by decide), e0 23 (by decide), e0 24 (by decide), e0 25 (by decide), e0 26 (by decide), e0 27 (by decide), e0 28 (by decide), e0 29 (by decide), e0 30 (by decide), e0 31 (by decide), e0 32 (by decide), e0 33 (by decide), e0 34 (by decide), e0 35 (by decide), e0 38 (by decide), e0 39 (by decide), e0 40 (by decide), e0 57 (by decide), e0 58 (by decide), e0 59 (by decide), e0 60 (by decide), e0 61 (by decide), e0 62 (by decide), e0 63 (by decide), e0 64 (by decide), e0 65 (by decide), e0 66 (by decide), e0 67 (by decide), e0 68 (by decide), e0 70 (by decide), e0 71 (by decide), e0 72 (by decide), e0 73 (by decide), e0 74 (by decide), e0 75 (by decide), e0 76 (by decide), e0 77 (by decide), e0 78 (by decide), e0 79 (by decide), e0 80 (by decide), e0 81 (by decide), e0 82 (by decide), e0 83 (by decide), e0 84 (by decide), e0 85 (by decide), e0 86 (by decide), e0 87 (by decide), e0 88 (by decide), e0 89 (by decide), e0 90 (by decide), e0 91 (by decide), e0 92 (by decide), e0 93 (by decide), e0 94 (by decide), e0 95 (by decide), e0 96 (by decide), e0 97 (by decide), e0 98 (by decide), e0 99 (by decide), e0 100 (by decide), e0 101 (by decide), e0 103 (by decide), e0 104 (by decide), e0 115 (by decide), e0 116 (by decide), e0 117 (by decide), e0 118 (by decide), e0 119 (by decide), e9 9 (by decide), e9 17 (by decide), e9 22 (by decide), e9 26 (by decide), e9 30 (by decide), e9 31 (by decide), e9 32 (by decide), e9 37 (by decide), e9 44 (by decide), e9 43 (by decide), e9 83 (by decide), e9 33 (by decide), e9 34 (by decide), e9 35 (by decide), e9 70 (by decide), e36, e46]
  have n33 : g 37 = g 102 := by
    rw [e37, e102]
    funext j
    by_cases x : a ≤ j ∧ j < a + n
    · simp only [if_pos x]; exact he _ (by omega)
    · simp only [if_neg x]; rw [r33]
  have n115 : rgA (g 37) 0 255 := by
    intro j
    rw [e37]
    simp only
    split
    · exact hb _
    · exact r115 j
  have n44 : True := True.intro
  have n72 : 0 ≤ ((a + n : Nat) : Int) := by omega
  have n73 : ((a + n : Nat) : Int) ≤ 40 := by omega
  exact ⟨⟨r1, r2, r3, r4, r5, r6, r7, r8⟩, ⟨r9, r10, r11, r12, r13⟩, ⟨r14, r15, r16, r17, r18, r19, r20⟩, ⟨r21, r22, r23, r24, r25, r26⟩, ⟨r27, r28, r29, r30, r31⟩, ⟨r32, n33⟩, ⟨r34, r35, r36, r37, r38, r39, r40, r41, r42, r43, n44, r45⟩, ⟨r46, r47, r48⟩, ⟨r49, r50, r51, r52, r53, r54, r55⟩, ⟨r56, r57, r58, r59, r60, r61, r62, r63, r64, r65⟩, ⟨r66, r67, r68, r69, r70, r71, n72, n73, r74, r75⟩, ⟨r76, r77, r78, r79, r80, r81, r82, r83⟩, ⟨r84, r85, r86, r87, r88, r89⟩, ⟨r90, r91, r92, r93, r94, r95, r96, r97, r98⟩, ⟨r99, r100, r101, r102, r103, r104, r105, r106⟩, ⟨r107, r108, r109, r110, r111, r112, r113⟩, ⟨r114, n115, r116, r117, r118, r119, r120, r121, r122, r123⟩⟩
theorem c_app (a : Nat) (hn : ∀ n : Nat, v1 = n → n ≤ 8 ∧ a + n ≤ 40) : ∀ k i n : Nat, v1 = n → i + k = n → Q (I ((a + n : Nat) : Int)) (FDH h 37 36 1 a n (byC v2)) → X d 25 3 [some (P 36), some (I v1), some (J v2), none, some (I i)] [] (FDH h 37 36 1 a i (byC v2)) Q := by
  intro k
  induction k with
  | zero =>
    intro i n en e H
    have : i = n := by omega
    subst this
    refine b25_3 (br_i (fun _ => ?_) (fun q => absurd (by omega) q))
    rw [FDH_q (by decide)]
    exact H
  | succ k ih =>
    intro i n en e H
    have hb := hn n en
    refine b25_3 (br_i (fun q => absurd q (by omega)) (fun _ => ?_))
    rw [FDH_q (by decide)]
    refine br_i (fun q => absurd q (by omega)) (fun _ => ⟨by omega, ?_⟩)
    rw [w32_n (by omega), w32_n (by omega)]
    simp only [Int.toNat_natCast]
    show X d 25 3 _ [] (up2 (up2 (FDH h 37 36 1 a i (byC v2)) 37 (a + i) (byC v2 i)) 36 1 _) Q
    rw [FDH_s (by decide)]
    exact ih (i + 1) n en (by omega) H
theorem m_app (a : Nat) (hn : ∀ n : Nat, v1 = n → n ≤ 8 ∧ a + n ≤ 40) : ∀ k i n : Nat, v1 = n → i + k = n → Q (I ((a + n : Nat) : Int)) (FDH h 102 69 46 a n (byM v2)) → X d 161 39 [some (P 69), some (I v1), some (J v2), none, some (I i)] [] (FDH h 102 69 46 a i (byM v2)) Q := by
  intro k
  induction k with
  | zero =>
    intro i n en e H
    have : i = n := by omega
    subst this
    refine b161_39 (br_i (fun _ => ?_) (fun q => absurd (by omega) q))
    rw [FDH_q (by decide)]
    exact H
  | succ k ih =>
    intro i n en e H
    have hb := hn n en
    refine b161_39 (br_i (fun q => absurd q (by omega)) (fun _ => ?_))
    rw [FDH_q (by decide)]
    refine ⟨by omega, ?_⟩
    rw [w32_n (by omega), w32_n (by omega)]
    simp only [Int.toNat_natCast]
    show X d 161 39 _ [] (up2 (up2 (FDH h 102 69 46 a i (byM v2)) 102 (a + i) (byM v2 i)) 69 46 _) Q
    rw [FDH_s (by decide)]
    exact ih (i + 1) n en (by omega) H
set_option maxHeartbeats 4000000 in
theorem p_feed (hR : R h) (hv : i32 v1) : X (d + 6) 94 0 [some (P 0), some (I v1), some (J v2), none] [] h (fun r h1 => X (d + 6) 161 0 [some (P 69), some (I v1), some (J v2), none, none] [] h1 (fun r' h2 => EQA r r' h2)) := by
  obtain ⟨⟨r1, r2, r3, r4, r5, r6, r7, r8⟩, ⟨r9, r10, r11, r12, r13⟩, ⟨r14, r15, r16, r17, r18, r19, r20⟩, ⟨r21, r22, r23, r24, r25, r26⟩, ⟨r27, r28, r29, r30, r31⟩, ⟨r32, r33⟩, ⟨r34, r35, r36, r37, r38, r39, r40, r41, r42, r43, r44, r45⟩, ⟨r46, r47, r48⟩, ⟨r49, r50, r51, r52, r53, r54, r55⟩, ⟨r56, r57, r58, r59, r60, r61, r62, r63, r64, r65⟩, ⟨r66, r67, r68, r69, r70, r71, r72, r73, r74, r75⟩, ⟨r76, r77, r78, r79, r80, r81, r82, r83⟩, ⟨r84, r85, r86, r87, r88, r89⟩, ⟨r90, r91, r92, r93, r94, r95, r96, r97, r98⟩, ⟨r99, r100, r101, r102, r103, r104, r105, r106⟩, ⟨r107, r108, r109, r110, r111, r112, r113⟩, ⟨r114, r115, r116, r117, r118, r119, r120, r121, r122, r123⟩⟩ := id hR
  unfold i32 at hv
  by_cases q1 : 1 ≤ v1
  · by_cases q8 : v1 ≤ 8
    · have ew : w32 (h 36 1 + v1) = h 36 1 + v1 := w32_of (by omega) (by omega)
      by_cases q4 : h 36 1 + v1 ≤ 40
      · obtain ⟨n, en⟩ := Int.eq_ofNat_of_zero_le (show 0 ≤ v1 by omega)
        obtain ⟨a, ea⟩ := Int.eq_ofNat_of_zero_le r72
        have en' : v1 = ((n : Nat) : Int) := en
        have hb : ∀ k : Nat, v1 = k → k ≤ 8 ∧ a + k ≤ 40 := fun k hk => by omega
        refine b94_0 (br_i (fun _ => br_i (fun q => absurd q (by omega)) (fun _ => br_i (fun _ => b25_0 ?_) (fun q => absurd (by rw [ew]; exact q4) q))) (fun q => absurd q1 q))
        have e0 : h = FDH h 37 36 1 a 0 (byC v2) := FDH_0 ea
        rw [e0]
        refine c_app a hb n 0 n en' (by omega) (b94_48 ?_)
        have em : FDH h 37 36 1 a n (byC v2) 69 46 = (a : Int) := by rw [FDH_o (by decide) (by decide), ← r44]; exact ea
        refine b161_0 (br_i (fun _ => br_i (fun q => absurd q (by omega)) (fun _ => br_i (fun _ => ?_) (fun q => absurd (by rw [em]; rw [ea] at ew q4; rw [ew]; exact q4) q))) (fun q => absurd q1 q))
        have e1 : FDH h 37 36 1 a n (byC v2) = FDH (FDH h 37 36 1 a n (byC v2)) 102 69 46 a 0 (byM v2) := FDH_0 em
        rw [e1]
        exact m_app a hb n 0 n en' (by omega) ⟨rfl, R_FDH hR (hb n en').2 (fun i hi => by_e v2 i (by have := (hb n en').1; omega)) (by_r v2)⟩
      · have em : rfC h (-6) 69 46 = h 36 1 := by rw [rfC_p (by decide), r44]
        refine b94_0 (br_i (fun _ => br_i (fun q => absurd q (by omega)) (fun _ => br_i (fun q => absurd (by rw [← ew]; exact q) q4) (fun _ => b94_32 (z121 ⟨by decide, by decide, b94_38 (show X (d + 6) 161 0 [some (P 69), some (I v1), some (J v2), none, none] [] (rfC h (-6)) _ from ?_)⟩)))) (fun q => absurd q1 q))
        exact b161_0 (br_i (fun _ => br_i (fun q => absurd q (by omega)) (fun _ => br_i (fun q => absurd (by rw [← ew, ← em]; exact q) q4) (fun _ => b161_29 (z135 ⟨by decide, by decide, b161_35 (EQA_rf hR)⟩)))) (fun q => absurd q1 q))
    · refine b94_0 (br_i (fun _ => br_i (fun _ => b94_32 (z121 ⟨by decide, by decide, b94_38 (show X (d + 6) 161 0 [some (P 69), some (I v1), some (J v2), none, none] [] (rfC h (-6)) _ from ?_)⟩)) (fun q => absurd q (by omega))) (fun q => absurd q1 q))
      exact b161_0 (br_i (fun _ => br_i (fun _ => b161_29 (z135 ⟨by decide, by decide, b161_35 (EQA_rf hR)⟩)) (fun q => absurd q (by omega))) (fun q => absurd q1 q))
  · refine b94_0 (br_i (fun q => absurd q q1) (fun _ => z121 ⟨by decide, by decide, b94_11 (show X (d + 6) 161 0 [some (P 69), some (I v1), some (J v2), none, none] [] (rfC h (-4)) _ from ?_)⟩))
    exact b161_0 (br_i (fun q => absurd q q1) (fun _ => z135 ⟨by decide, by decide, b161_11 (EQA_rf hR)⟩))
end P62
