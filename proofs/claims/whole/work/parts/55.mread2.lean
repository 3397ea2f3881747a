/-! the model reads a text: parts, terms, cases -/
section MR
variable {d : Nat} {h : HP} {Q : PV → HP → Prop} {a n : Nat} {b : Nat → Int} {f o : Int}
def MRun (h : HP) (D meth : Nat) (L : LSt) (o : Int) (pp : Nat → PRS) : Prop := ∀ (Q : PV → HP → Prop) (a : Nat), MK Q h o (pp a) → X D meth 0 L [] (MHP h a (-9) o) Q
theorem b2i_01 (c : Bool) : b2i c = 0 ∨ b2i c = 1 := by cases c <;> simp [b2i]
set_option maxHeartbeats 4000000 in
theorem mr_term {D : Nat} {pp : Nat → PRS} (hB : MB h b n) (gp : GP n pp) (Hp : MRun h (D + 1) 168 [some (P 69), none, none, none, none] o pp) : MRun h (D + 2) 167 [some (P 69), none, none] o (pPs pp b n) := by
  intro Q a K
  have n40 := hB.1.2
  -- behind a fault
  have F : ∀ (v : Int) (a' : Nat), (v = 0 ∨ v = 1) → (∀ v, (v = 0 ∨ v = 1) → Q (I v) (MHP h a' (a' : Int) o)) → X (D + 2) 167 5 [some (P 69), some (I v), none] [] (MHP h a' (a' : Int) o) Q := fun v a' hv HQ => b167_5 (m_taken (by omega) (b167_11 (br_i (fun _ => ⟨hv, HQ v hv⟩) (fun x => absurd rfl x))))
  have L : ∀ (k : Nat) (r : PRS), n ≤ r.2.1 + k → MK Q h o (pLp 38 3145728 and pp b n k r) → r.1 = true → X (D + 2) 167 5 [some (P 69), some (I (b2i (r.2.2.2 (envM h)))), none] [] (MHP h r.2.1 (-9) o) Q := by
    intro k
    induction k with
    | zero =>
      intro r hk K c0
      refine b167_5 (m_take (by decide) (by decide) hB (by decide) (fun e => ?_) (fun e => b167_11 (br_i (fun _ => ⟨b2i_01 _, K.1 c0⟩) (fun x => absurd rfl x))))
      have := nxc_n e (by decide)
      omega
    | succ k ih =>
      intro r hk K c0
      unfold pLp at K
      refine b167_5 (m_take (by decide) (by decide) hB (by decide) (fun e => b167_11 (br_i (fun x => absurd x (by decide)) (fun _ => ?_))) (fun e => b167_11 (br_i (fun _ => ?_) (fun x => absurd rfl x))))
      · rw [if_pos e] at K
        refine Hp _ (r.2.1 + 1) (MK_b (fun c2 => b167_18 ?_) (fun c2 v hv => b167_18 ?_))
        · rw [if_pos c2] at K
          obtain ⟨y1, -⟩ := gp _ c2
          have ih' := fun (r' : PRS) (hr : n ≤ r'.2.1 + k) (K' : MK Q h o (pLp 38 3145728 and pp b n k r')) (c' : r'.1 = true) => ih r' hr K' c'
          have := ih' _ (by dsimp only; omega) K rfl
          dsimp only at this
          cases q1 : r.2.2.2 (envM h) <;> cases q2 : (pp (r.2.1 + 1)).2.2.2 (envM h) <;> rw [q1, q2] at this
          · exact br_i (fun _ => b167_31 (b167_32 this)) (fun x => absurd rfl x)
          · exact br_i (fun _ => b167_31 (b167_32 this)) (fun x => absurd rfl x)
          · exact br_i (fun x => absurd x (by decide)) (fun _ => br_i (fun _ => b167_31 (b167_32 this)) (fun x => absurd rfl x))
          · exact br_i (fun x => absurd x (by decide)) (fun _ => br_i (fun x => absurd x (by decide)) (fun _ => b167_32 this))
        · rw [if_neg (fT c2)] at K
          have F0 := F 0 _ (Or.inl rfl) (K.2 rfl)
          have F1 := F 1 _ (Or.inr rfl) (K.2 rfl)
          exact br_i (fun _ => b167_31 (b167_32 F0)) (fun _ => br_i (fun _ => b167_31 (b167_32 F0)) (fun _ => b167_32 F1))
      · rw [if_neg e] at K
        exact ⟨b2i_01 _, K.1 c0⟩
  unfold pPs at K
  refine b167_0 (Hp _ a (MK_b (fun c => b167_4 ?_) (fun c v hv => b167_4 ?_)))
  · rw [if_pos c] at K
    exact L 40 (pp a) (by omega) K c
  · rw [if_neg (fT c)] at K
    exact F v _ hv (K.2 rfl)
set_option maxHeartbeats 4000000 in
theorem mr_test {D : Nat} {pp : Nat → PRS} (hB : MB h b n) (gp : GP n pp) (Hp : MRun h (D + 1) 167 [some (P 69), none, none] o pp) (Q : PV → HP → Prop) (a : Nat) (K : MK Q h o (if (pp a).1 = true then pLp 124 4194304 or pp b n 40 (pp a) else pFl (pp a).2.1)) : X (D + 2) 166 0 [some (P 69), none, none] [] (MHP h a (-9) o) Q := by
  have n40 := hB.1.2
  have F : ∀ (v : Int) (a' : Nat), (v = 0 ∨ v = 1) → (∀ v, (v = 0 ∨ v = 1) → Q (I v) (MHP h a' (a' : Int) o)) → X (D + 2) 166 5 [some (P 69), some (I v), none] [] (MHP h a' (a' : Int) o) Q := fun v a' hv HQ => b166_5 (m_taken (by omega) (b166_11 (br_i (fun _ => ⟨hv, HQ v hv⟩) (fun x => absurd rfl x))))
  have L : ∀ (k : Nat) (r : PRS), n ≤ r.2.1 + k → MK Q h o (pLp 124 4194304 or pp b n k r) → r.1 = true → X (D + 2) 166 5 [some (P 69), some (I (b2i (r.2.2.2 (envM h)))), none] [] (MHP h r.2.1 (-9) o) Q := by
    intro k
    induction k with
    | zero =>
      intro r hk K c0
      refine b166_5 (m_take (by decide) (by decide) hB (by decide) (fun e => ?_) (fun e => b166_11 (br_i (fun _ => ⟨b2i_01 _, K.1 c0⟩) (fun x => absurd rfl x))))
      have := nxc_n e (by decide)
      omega
    | succ k ih =>
      intro r hk K c0
      unfold pLp at K
      refine b166_5 (m_take (by decide) (by decide) hB (by decide) (fun e => b166_11 (br_i (fun x => absurd x (by decide)) (fun _ => ?_))) (fun e => b166_11 (br_i (fun _ => ?_) (fun x => absurd rfl x))))
      · rw [if_pos e] at K
        refine Hp _ (r.2.1 + 1) (MK_b (fun c2 => b166_18 ?_) (fun c2 v hv => b166_18 ?_))
        · rw [if_pos c2] at K
          obtain ⟨y1, -⟩ := gp _ c2
          have ih' := fun (r' : PRS) (hr : n ≤ r'.2.1 + k) (K' : MK Q h o (pLp 124 4194304 or pp b n k r')) (c' : r'.1 = true) => ih r' hr K' c'
          have := ih' _ (by dsimp only; omega) K rfl
          dsimp only at this
          cases q1 : r.2.2.2 (envM h) <;> cases q2 : (pp (r.2.1 + 1)).2.2.2 (envM h) <;> rw [q1, q2] at this
          · exact br_i (fun x => absurd rfl x) (fun _ => br_i (fun _ => b166_32 this) (fun x => absurd rfl x))
          · exact br_i (fun x => absurd rfl x) (fun _ => br_i (fun x => absurd x (by decide)) (fun _ => b166_27 (b166_32 this)))
          · exact br_i (fun _ => b166_27 (b166_32 this)) (fun x => absurd (by decide) x)
          · exact br_i (fun _ => b166_27 (b166_32 this)) (fun x => absurd (by decide) x)
        · rw [if_neg (fT c2)] at K
          have F0 := F 0 _ (Or.inl rfl) (K.2 rfl)
          have F1 := F 1 _ (Or.inr rfl) (K.2 rfl)
          exact br_i (fun _ => b166_27 (b166_32 F1)) (fun _ => br_i (fun _ => b166_32 F0) (fun _ => b166_27 (b166_32 F1)))
      · rw [if_neg e] at K
        exact ⟨b2i_01 _, K.1 c0⟩
  refine b166_0 (Hp _ a (MK_b (fun c => b166_4 ?_) (fun c v hv => b166_4 ?_)))
  · rw [if_pos c] at K
    exact L 40 (pp a) (by omega) K c
  · rw [if_neg (fT c)] at K
    exact F v _ hv (K.2 rfl)
set_option maxHeartbeats 4000000 in
theorem mr_part (hB : MB h b n) (h9 : 0 ≤ h 69 9 ∧ h 69 9 ≤ 8) : ∀ (k : Nat), k ≤ 4 → ∀ D, 3 * k + 4 ≤ D → MRun h D 168 [some (P 69), none, none, none, none] (4 - (k : Int)) (pPt b n k) := by
  have n40 := hB.1.2
  have m33 := fun a : Nat => mby_c (b := b) (n := n) (a := a) (c := 33) (by decide) (by decide)
  have m40 := fun a : Nat => mby_c (b := b) (n := n) (a := a) (c := 40) (by decide) (by decide)
  intro k
  induction k with
  | zero =>
    intro _ D hD Q a K
    obtain ⟨D', rfl⟩ : ∃ D', D = D' + 3 := ⟨D - 3, by omega⟩
    unfold pPt at K
    have F26 : ∀ v1, MK Q h (4 - ((0 : Nat) : Int)) (pFl a) → X (D' + 3) 168 26 [some (P 69), some (I v1), none, none, none] [] (MHP h a (-9) (4 - ((0 : Nat) : Int))) Q := by
      intro v1 K
      refine b168_26 ?_
      rw [MHP_o]
      exact br_i (fun x => absurd (by decide) x) (fun _ => m_wrong (by decide) (b168_38 (K.2 rfl 0 (Or.inl rfl))))
    refine b168_0 ?_
    rw [MHP_f]
    refine br_i (fun _ => m_byte hB (b168_13 (br_i (fun q => F26 _ ?_) (fun q => br_i (fun q2 => m_fact hB h9 ?_) (fun q2 => F26 _ ?_))))) (fun x => absurd (by decide) x)
    · rw [if_pos ((m33 a).mp q)] at K; exact K
    · rw [if_neg (fun x => q ((m33 a).mpr x)), if_neg (fun x => q2 ((m40 a).mpr x))] at K; exact K
    · rw [if_neg (fun x => q ((m33 a).mpr x)), if_pos ((m40 a).mp (Classical.not_not.mp q2))] at K; exact K
  | succ k ih =>
    intro hk D hD Q a K
    obtain ⟨D', rfl⟩ : ∃ D', D = D' + 3 := ⟨D - 3, by omega⟩
    have P0 := ih (by omega)
    unfold pPt at K
    have eo : w32 (4 - ((k + 1 : Nat) : Int) + 1) = 4 - (k : Int) := by rw [w32_of (by omega) (by omega)]; omega
    have eo2 : w32 (4 - (k : Int) - 1) = 4 - ((k + 1 : Nat) : Int) := by rw [w32_of (by omega) (by omega)]; omega
    have U : a < n → up2 (up2 (MHP h a (-9) (4 - ((k + 1 : Nat) : Int))) 69 53 (w32 (4 - ((k + 1 : Nat) : Int) + 1))) 69 50 (w32 ((a : Int) + 1)) = MHP h (a + 1) (-9) (4 - (k : Int)) := by
      intro an
      rw [eo, MHP_uo, MHP_ua (a' := a + 1) (w32_n (by omega))]
    have E105 : ∀ (v1 v2 : Int) (a' : Nat) (f : Int), (v2 = 0 ∨ v2 = 1) → Q (I v2) (MHP h a' f (4 - ((k + 1 : Nat) : Int))) → X (D' + 3) 168 105 [some (P 69), some (I v1), some (I v2), none, none] [] (MHP h a' f (4 - (k : Int))) Q := by
      intro v1 v2 a' f hv HQ
      refine b168_105 ⟨hv, ?_⟩
      rw [MHP_o, eo2, MHP_uo]
      exact HQ
    have N33 : nxc b n a = 33 → MK Q h (4 - ((k + 1 : Nat) : Int)) (pNo (pPt b n k (a + 1))) → X (D' + 3) 168 26 [some (P 69), some (I 33), none, none, none] [] (MHP h a (-9) (4 - ((k + 1 : Nat) : Int))) Q := by
      intro e K
      have an := nxc_n e (by decide)
      refine b168_26 ?_
      rw [MHP_o, MHP_a, U an]
      unfold pNo at K
      refine br_i (fun _ => br_i (fun x => absurd rfl x) (fun _ => P0 (D' + 2) (by omega) _ (a + 1) (MK_b (fun c => b168_70 ?_) (fun c v hv => b168_70 ?_)))) (fun x => absurd (fun y => by omega) x)
      · rw [if_pos c] at K
        have K1 := K.1 rfl
        dsimp only at K1
        cases q1 : (pPt b n k (a + 1)).2.2.2 (envM h) <;> rw [q1] at K1
        · exact br_i (fun x => absurd rfl x) (fun _ => b168_85 (br_i (fun _ => E105 _ _ _ _ (Or.inr rfl) K1) (fun x => absurd (by decide) x)))
        · exact br_i (fun _ => b168_85 (br_i (fun _ => E105 _ _ _ _ (Or.inl rfl) K1) (fun x => absurd (by decide) x))) (fun x => absurd (by decide) x)
      · rw [if_neg (fT c)] at K
        have K2 := K.2 rfl
        exact br_i (fun _ => b168_85 (br_i (fun _ => E105 _ _ _ _ (Or.inl rfl) (K2 0 (Or.inl rfl))) (fun x => absurd (by decide) x))) (fun _ => b168_85 (br_i (fun _ => E105 _ _ _ _ (Or.inr rfl) (K2 1 (Or.inr rfl))) (fun x => absurd (by decide) x)))
    have N40 : nxc b n a = 40 → MK Q h (4 - ((k + 1 : Nat) : Int)) (pCl b n (pTs (pPt b n k) b n (a + 1))) → X (D' + 3) 168 26 [some (P 69), some (I 40), none, none, none] [] (MHP h a (-9) (4 - ((k + 1 : Nat) : Int))) Q := by
      intro e K
      have an := nxc_n e (by decide)
      refine b168_26 ?_
      rw [MHP_o, MHP_a, U an]
      unfold pCl at K
      have HP1 : MRun h (D' + 1) 167 [some (P 69), none, none] (4 - (k : Int)) (pPs (pPt b n k) b n) := by
        obtain ⟨D2, rfl⟩ : ∃ D2, D' = D2 + 1 := ⟨D' - 1, by omega⟩
        exact mr_term hB (pPt_g k) (P0 (D2 + 1) (by omega))
      refine br_i (fun _ => br_i (fun _ => mr_test hB (pPs_g (pPt_g k)) HP1 _ (a + 1) ?_) (fun x => absurd (by decide) x)) (fun x => absurd (fun y => by omega) x)
      show MK _ h (4 - (k : Int)) (pTs (pPt b n k) b n (a + 1))
      refine MK_b (fun c => b168_85 (br_i (fun x => absurd rfl x) (fun _ => ?_))) (fun c v hv => b168_85 (br_i (fun x => absurd rfl x) (fun _ => ?_)))
      · rw [if_pos c] at K
        refine m_take (by decide) (by decide) hB (by decide) (fun e2 => b168_98 (br_i (fun _ => ?_) (fun x => absurd (by decide) x))) (fun e2 => b168_98 (br_i (fun x => absurd rfl x) (fun _ => ?_)))
        · rw [if_pos e2] at K
          exact E105 _ _ _ _ (b2i_01 _) (K.1 rfl)
        · rw [if_neg e2] at K
          exact m_wrong (by decide) (E105 _ _ _ _ (b2i_01 _) (K.2 rfl _ (b2i_01 _)))
      · rw [if_neg (fT c)] at K
        exact m_taken (by omega) (b168_98 (br_i (fun x => absurd rfl x) (fun _ => m_wrong2 (by omega) (E105 _ _ _ _ hv (K.2 rfl v hv)))))
    refine b168_0 ?_
    rw [MHP_f]
    refine br_i (fun _ => m_byte hB (b168_13 (br_i (fun q => ?_) (fun q => br_i (fun q2 => m_fact hB h9 ?_) (fun q2 => ?_))))) (fun x => absurd (by decide) x)
    · have e := (m33 a).mp q
      rw [if_pos e] at K
      rw [q]; exact N33 e K
    · rw [if_neg (fun x => q ((m33 a).mpr x)), if_neg (fun x => q2 ((m40 a).mpr x))] at K; exact K
    · have q3 := Classical.not_not.mp q2
      have e := (m40 a).mp q3
      rw [if_neg (fun x => q ((m33 a).mpr x)), if_pos e] at K
      rw [q3]; exact N40 e K
theorem mr_test0 (hB : MB h b n) (h9 : 0 ≤ h 69 9 ∧ h 69 9 ≤ 8) : MRun h (d + 18) 166 [some (P 69), none, none] 0 (pTs (pPt b n 4) b n) := by
  have H4 : MRun h (d + 16) 168 [some (P 69), none, none, none, none] 0 (pPt b n 4) := mr_part hB h9 4 (by decide) (d + 16) (by omega)
  have HP1 : MRun h (d + 17) 167 [some (P 69), none, none] 0 (pPs (pPt b n 4) b n) := mr_term (D := d + 15) hB (pPt_g 4) H4
  intro Q a K
  exact mr_test (D := d + 16) hB (pPs_g (pPt_g 4)) HP1 Q a K
/-- none holds: -9 -/
def tq (x : Int) : Int := if x < 0 then -9 else x
def MKC (Q : PV → HP → Prop) (h : HP) (r : CRS) : Prop := (r.1 = true → Q (I 0) (MHP (up2 h 69 58 (tq (r.2.2.2 (envM h)))) r.2.1 (-9) 0)) ∧ (r.1 = false → ∀ t, Q (I 0) (MHP (up2 h 69 58 t) r.2.1 (r.2.1 : Int) 0))
theorem pTs_e {k : Nat} (ha : n ≤ a) : pTs (pPt b n k) b n a = pFl a := by
  have e : nxc b n a = -1 := by unfold nxc; rw [if_neg (by omega)]
  have e1 : pFa b n a = pFl a := by unfold pFa; rw [e, if_neg (by decide), if_neg (by decide), if_neg (by decide)]
  have e2 : pPt b n k a = pFl a := by
    cases k with
    | zero => unfold pPt; rw [e, if_neg (by decide), if_neg (by decide), e1]
    | succ k => unfold pPt; rw [e, if_neg (by decide), if_neg (by decide), e1]
  have e3 : pPs (pPt b n k) b n a = pFl a := by unfold pPs; rw [e2]; rfl
  unfold pTs
  rw [e3]; rfl
theorem MB_t {v : Int} (hB : MB h b n) : MB (up2 h 69 58 v) b n := by
  unfold MB at *
  rw [up_i (j := 51) (by decide), up_i (j := 49) (by decide), up_p (q := 102) (by decide), up_p (q := 103) (by decide)]
  exact hB
theorem env_t {v : Int} : envM (up2 h 69 58 v) = envM h := by
  unfold envM
  rw [up_i (j := 55) (by decide), up_i (j := 56) (by decide), up_i (j := 9) (by decide), up_p (q := 105) (by decide)]
theorem up_tt {v w : Int} : up2 (up2 h 69 58 v) 69 58 w = up2 h 69 58 w := by
  funext q j
  unfold up2
  by_cases c : q = 69 ∧ j = 58
  · simp [c]
  · simp only [c, if_false]
set_option maxHeartbeats 4000000 in
theorem mr_cases {most : Int} (hB : MB h b n) (h9 : 0 ≤ h 69 9 ∧ h 69 9 ≤ 8) (m0 : 0 ≤ most) (m9 : most ≤ 8) (h57 : h 69 57 = most + 1) : ∀ (k a : Nat) (st : List Int) (tl : (Nat → Int) → Int), n ≤ a + k → (tl (envM h) = -1 ∨ 0 ≤ tl (envM h)) → MKC Q h (pCs b n most k a st tl) → X (d + 19) 171 8 [some (P 69), some (I 1), none] [] (MHP (up2 h 69 58 (tq (tl (envM h)))) a (-9) 0) Q := by
  have n40 := hB.1.2
  intro k
  induction k with
  | zero =>
    intro a st tl hk ht K
    refine b171_8 (br_i (fun x => absurd x (by decide)) (fun _ => mr_test0 (MB_t hB) (by rw [up_i (by decide)]; exact h9) _ a ?_))
    rw [pTs_e (by omega)]
    exact MK_b (fun x => absurd x (fun y => Bool.noConfusion y)) (fun _ v hv => b171_16 (m_taken (by show (0 : Int) ≤ (a : Int); omega) (b171_23 (br_i (fun _ => b171_47 (m_wrong2 (by show (0 : Int) ≤ (a : Int); omega) (b171_51 (K.2 rfl _)))) (fun x => absurd rfl x)))))
  | succ k ih =>
    intro a st tl hk ht K
    unfold pCs at K
    refine b171_8 (br_i (fun x => absurd x (by decide)) (fun _ => mr_test0 (MB_t hB) (by rw [up_i (by decide)]; exact h9) _ a ?_))
    refine MK_b (fun c => b171_16 ?_) (fun c v hv => b171_16 (m_taken (by omega) (b171_23 (br_i (fun _ => b171_47 (m_wrong2 (by omega) (b171_51 ?_))) (fun x => absurd rfl x)))))
    · rw [if_pos c] at K
      obtain ⟨x1, x2, -⟩ := pTs_g (b := b) (pPt_g (b := b) (n := n) 4) a c
      generalize pTs (pPt b n 4) b n a = r at *
      have BT := MB_t (v := tq (tl (envM h))) hB
      rw [env_t]
      refine m_take (by decide) (by decide) BT (by decide) (fun e => b171_23 (br_i (fun x => absurd x (by decide)) (fun _ => ?_))) (fun e => b171_23 (br_i (fun _ => b171_47 (m_wrong (by decide) (b171_51 ?_))) (fun x => absurd rfl x)))
      · have rn := nxc_n e (by decide)
        rw [if_pos e] at K
        have D1 := dgt_m (b := b) (n := n) (a := r.2.1 + 1)
        -- the digit is none, or too great
        have W : dgt b n (r.2.1 + 1) most < 0 → ∀ v2, X (d + 19) 171 47 [some (P 69), some (I 1), some (I v2)] [] (MHP (up2 h 69 58 (tq (tl (envM h)))) (r.2.1 + 1) (-9) 0) Q := by
          intro c4 v2
          rw [if_pos c4] at K
          exact b171_47 (m_wrong (by decide) (b171_51 (K.2 rfl _)))
        refine m_isd BT (by decide) (fun c4 => b171_30 (br_i (fun x => absurd x (by decide)) (fun _ => m_byte BT (b171_37 ?_)))) (fun c4 => b171_30 (br_i (fun _ => W ?_ _) (fun x => absurd rfl x)))
        · have r4 := dgt_r c4
          have e9 : dgt b n (r.2.1 + 1) 9 = nxc b n (r.2.1 + 1) - 48 := r4.2.2.1
          rw [MHP_i (j := 57) (by decide) (by decide) (by decide), up_i (j := 57) (by decide), h57, w32_of (x := mby b n (r.2.1 + 1) - 48) (by omega) (by omega), show mby b n (r.2.1 + 1) - 48 = dgt b n (r.2.1 + 1) 9 by omega]
          refine br_i (fun q => ?_) (fun q => W ?_ _)
          · have ed : dgt b n (r.2.1 + 1) most = dgt b n (r.2.1 + 1) 9 := by
              have : dgt b n (r.2.1 + 1) most = nxc b n (r.2.1 + 1) - 48 := by unfold dgt; rw [if_pos (by omega)]
              omega
            rw [if_neg (show ¬ dgt b n (r.2.1 + 1) most < 0 by omega)] at K
            rw [ed] at K
            generalize edg : dgt b n (r.2.1 + 1) 9 = dg at *
            -- what is told, and on
            have G : ∀ s1, s1 = tq (if tl (envM h) < 0 ∧ r.2.2.2 (envM h) = true then dg else tl (envM h)) → ∀ v2, X (d + 19) 171 78 [some (P 69), some (I 1), some (I v2)] [I s1, P 69] (MHP (up2 h 69 58 (tq (tl (envM h)))) (r.2.1 + 1) (-9) 0) Q := by
              intro s1 hs v2
              subst hs
              refine b171_78 ?_
              rw [MHP_ut, up_tt, MHP_a, MHP_ua (a' := r.2.1 + 2) (w32_n (by omega))]
              have BT2 := MB_t (v := tq (if tl (envM h) < 0 ∧ r.2.2.2 (envM h) = true then dg else tl (envM h))) hB
              refine m_take (by decide) (by decide) BT2 (by decide) (fun e5 => b171_97 ?_) (fun e5 => b171_97 (b171_8 (br_i (fun _ => ?_) (fun x => absurd rfl x))))
              · have rn5 := nxc_n e5 (by decide)
                rw [if_neg (show ¬ n ≤ r.2.1 + 2 by omega), if_pos e5] at K
                exact ih (r.2.1 + 2 + 1) _ (fun E => if tl E < 0 ∧ r.2.2.2 E = true then dg else tl E) (by omega) (by split <;> omega) K
              · rw [MHP_i (j := 51) (by decide) (by decide) (by decide), up_i (j := 51) (by decide), hB.1.1, MHP_a]
                refine br_i (fun q5 => b171_116 ?_) (fun q5 => m_wrong (by decide) (b171_116 ?_))
                · rw [if_pos (show n ≤ r.2.1 + 2 by omega)] at K
                  exact K.1 rfl
                · rw [if_neg (show ¬ n ≤ r.2.1 + 2 by omega), if_neg e5] at K
                  exact K.2 rfl _
            rw [MHP_i (j := 58) (by decide) (by decide) (by decide), up_s]
            have T74 : ¬ (tl (envM h) < 0 ∧ r.2.2.2 (envM h) = true) → ∀ v2, X (d + 19) 171 74 [some (P 69), some (I 1), some (I v2)] [P 69] (MHP (up2 h 69 58 (tq (tl (envM h)))) (r.2.1 + 1) (-9) 0) Q := by
              intro cn v2
              refine b171_74 ?_
              rw [MHP_i (j := 58) (by decide) (by decide) (by decide), up_s]
              exact G _ (by rw [if_neg cn]) v2
            cases qv : r.2.2.2 (envM h)
            · exact br_i (fun _ => T74 (fun x => by rw [qv] at x; exact absurd x.2 (by decide)) _) (fun x => absurd rfl x)
            · refine br_i (fun x => absurd x (by decide)) (fun _ => br_i (fun q5 => T74 (fun x => ?_) _) (fun q5 => m_byte BT (b171_68 ?_)))
              · unfold tq at q5
                rw [if_pos x.1] at q5
                exact absurd q5 (by decide)
              · have t0 : tl (envM h) < 0 := by
                  unfold tq at q5
                  by_cases c : tl (envM h) < 0
                  · exact c
                  · rw [if_neg c] at q5; omega
                rw [w32_of (x := mby b n (r.2.1 + 1) - 48) (by omega) (by omega)]
                refine G _ ?_ _
                rw [if_pos ⟨t0, qv⟩]
                unfold tq
                rw [if_neg (by omega)]
                omega
          · unfold dgt; rw [if_neg (by omega)]; decide
        · unfold dgt at c4 ⊢
          by_cases c : 0 ≤ nxc b n (r.2.1 + 1) - 48 ∧ nxc b n (r.2.1 + 1) - 48 ≤ most
          · rw [if_pos (by omega)] at c4; omega
          · rw [if_neg c]; decide
      · rw [if_neg e] at K
        exact K.2 rfl _
    · rw [if_neg (fT c)] at K
      exact K.2 rfl _
end MR
