/-! solve -/
section CLS
variable {n N1 N2 : Nat} {a b l a2 b2 l2 z : Nat → Int}
theorem w32_n {i : Nat} (h : i < 1000000) : w32 ((i : Int) + 1) = ((i + 1 : Nat) : Int) := by rw [w32_of (by omega) (by omega)]; omega
theorem pw31 {n : Nat} (h : n ≤ 8) : (2 : Int) ^ n ≤ 2147483648 := Int.le_trans (pw8 h) (by decide)
theorem op_n {op : Int} {i : Nat} (hn : n ≤ 8) (o0 : 0 ≤ op) (o1 : op < 2 ^ n) (hi : i < n) : ∃ x, x = bAnd op (bXor (bShl 1 (i : Int)) (-1)) ∧ 0 ≤ x ∧ x < 2 ^ n ∧ ∀ j, bit x j = (bit op j && !decide (i = j)) := by
  have i0 : (0 : Int) ≤ (i : Int) := by omega
  have i2 : (i : Int) < 31 := by omega
  have h31 : n ≤ 31 := by omega
  have hin : (i : Int) < (n : Int) := by omega
  have i1 := shl1_r (n := n) (i := (i : Int)) h31 i0 hin
  have i3 := Int.lt_of_lt_of_le i1.2 (pw31 hn)
  have nr := bnot_r (n := n) (x := op) (y := bShl 1 (i : Int)) h31 o0 o1 i1.1 i3
  refine ⟨_, rfl, nr.1, nr.2, fun j => ?_⟩
  have b1 := bit_1 (i := (i : Int)) i0 i2 j
  rw [Int.toNat_natCast] at b1
  rw [bit_not o0 (Int.lt_of_lt_of_le o1 (pw31 hn)) i1.1 i3, b1]
theorem or_n {x y : Int} (hn : n ≤ 8) (x0 : 0 ≤ x) (x1 : x < 2 ^ n) (y0 : 0 ≤ y) (y1 : y < 2 ^ n) : ∃ u, u = bOr x y ∧ 0 ≤ u ∧ u < 2 ^ n ∧ ∀ j, bit u j = (bit x j || bit y j) := by
  have h31 : n ≤ 31 := by omega
  have r := bor_r h31 x0 x1 y0 y1
  exact ⟨_, rfl, r.1, r.2, fun j => bit_or x0 (Int.lt_of_lt_of_le x1 (pw31 hn)) y0 (Int.lt_of_lt_of_le y1 (pw31 hn)) j⟩
set_option maxHeartbeats 4000000 in
theorem c_turns {d : Nat} {h : HP} {Q : PV → HP → Prop} {tp : Int} (hC : CS h n N1 N2 a b l a2 b2 l2 z) (H : ∀ h', o48 h h' → GR n (ntS h N1 N2 a b l a2 b2 l2 z) (h' 48) → Q (I 0) h') : ∀ (M : Nat) (g : HP) (op tn : Int), o48 h g → rsI n (ntS h N1 N2 a b l a2 b2 l2 z) (g 48) → 0 ≤ op → op < 2 ^ n → (∀ q, q < n → bit op q = false → stl (ntS h N1 N2 a b l a2 b2 l2 z) (g 48) q) → 0 ≤ tn → (op = 0 ∨ tn + sm (g 48) n ≤ 4800) → tn ≤ 4801 → (sm (g 48) n).toNat ≤ M → X (d + 3) 73 48 [some (P 44), some (I tp), some (I op), some (I tn), none] [] g Q := by
  obtain ⟨⟨hn, n8, m20, m8⟩, -, -, -, -, hnr, -, -⟩ := id hC
  have pw := pw8 n8
  intro M
  induction M using Nat.strongRecOn with
  | _ M IH =>
  intro g0 op0 tn hg0 gI0 o0 o1 hs0 t0 ht t48 hM
  have s0 := sm_nn (f := g0 48) (n := n) (fun j hj => (gI0.1 j hj).1)
  by_cases hop : op0 = 0
  · subst hop
    have F := H g0 hg0 (rs_end gI0 (fun q hq => hs0 q hq (bit_0 q)))
    exact b73_48 (br_i (fun _ => F) (fun _ => br_i (fun _ => F) (fun q => absurd rfl q)))
  · have ht' : tn + sm (g0 48) n ≤ 4800 := by omega
    have L : ∀ k i : Nat, i + k = n → ∀ (g : HP) (op : Int), o48 h g → rsI n (ntS h N1 N2 a b l a2 b2 l2 z) (g 48) → 0 ≤ op → op < 2 ^ n → (∀ q, q < n → bit op q = false → stl (ntS h N1 N2 a b l a2 b2 l2 z) (g 48) q) → ((sm (g 48) n < sm (g0 48) n) ∨ (g = g0 ∧ ∀ q, q < i → bit op q = false)) → X (d + 3) 73 62 [some (P 44), some (I tp), some (I op), some (I tn), some (I i)] [] g Q := by
      intro k
      induction k with
      | zero =>
        intro i hi g op hg gI o0 o1 hs hc
        have e44 : g 44 1 = n := by rw [hg 44 (by decide)]; exact hn
        have s1 := sm_nn (f := g 48) (n := n) (fun j hj => (gI.1 j hj).1)
        refine b73_62 (br_i (fun _ => ?_) (fun q => absurd (by rw [e44]; omega) q))
        rw [w32_of (by omega) (by omega)]
        rcases hc with c | ⟨c, hb⟩
        · exact IH (sm (g 48) n).toNat (by omega) g op (tn + 1) hg gI o0 o1 hs (by omega) (Or.inr (by omega)) (by omega) (Nat.le_refl _)
        · have e : op = 0 := bit_z o0 o1 (fun j hj => hb j (by omega))
          subst e
          have F := H g hg (rs_end gI (fun q hq => hs q hq (bit_0 q)))
          exact b73_48 (br_i (fun _ => F) (fun _ => br_i (fun _ => F) (fun q => absurd rfl q)))
      | succ k ih =>
        intro i hi g op hg gI o0 o1 hs hc
        have e44 : g 44 1 = n := by rw [hg 44 (by decide)]; exact hn
        have i9 : i < 1000000 := by omega
        have x44 : ¬ g 44 1 ≤ (i : Int) := by rw [e44]; omega
        refine b73_62 (br_i (fun q => absurd q x44) (fun _ => ?_))
        rw [bit_c o0 (by omega) (by omega) (by omega)]
        simp only [Int.toNat_natCast]
        obtain ⟨on, eon, nr0, nr1, nb⟩ := op_n n8 o0 o1 (show i < n by omega)
        rw [← eon]
        clear eon
        refine br_i (fun qb => ?_) (fun qb => b73_111 ?_)
        · refine c_lower (CS_o hg hC) (by omega) gI.1 (fun hst => b73_98 (br_i (fun _ => b73_111 ?_) (fun q => absurd rfl q))) (fun t u0 u1 u2 u3 => b73_98 (br_i (fun q => absurd q (by decide)) (fun _ => an_i (by omega) (by omega) (b73_111 ?_))))
          · rw [ntS_o hg] at hst
            rw [w32_n i9]
            refine ih (i + 1) (by omega) g on hg gI nr0 nr1 (fun q hq hb => ?_) ?_
            · rw [nb q] at hb
              by_cases e : q = i
              · subst e; exact hst
              · refine hs q hq ?_
                have : decide (i = q) = false := by simp; exact fun x => e x.symm
                rw [this] at hb
                simpa using hb
            · rcases hc with c | ⟨c, hb⟩
              · exact Or.inl c
              · refine Or.inr ⟨c, fun q hq => ?_⟩
                rw [nb q]
                by_cases e : q = i
                · subst e; simp
                · rw [hb q (by omega)]; rfl
          · rw [ntS_o hg] at u2 u3
            rw [w32_n i9]
            have e49 : up2 g 48 i t 49 i = h 49 i := by rw [up_p (by decide), hg 49 (by decide)]
            simp only [Int.toNat_natCast]
            rw [e49]
            have n49 := hnr i (by omega)
            obtain ⟨oo, eoo, or0, or1, orb⟩ := or_n n8 nr0 nr1 n49.1 n49.2
            rw [← eoo]
            clear eoo
            have hsm : sm (st1 (g 48) i t) n = sm (g 48) n - g 48 i + t := sm_st (by omega)
            refine ih (i + 1) (by omega) _ oo (o48_u hg) ⟨?_, ?_⟩ or0 or1 (fun q hq hb => ?_) (Or.inl ?_)
            · rw [up_st]
              intro r hr
              have gi := gI.1 i (by omega)
              by_cases e : r = i
              · subst e; rw [st1_s]; omega
              · rw [st1_n e]; exact gI.1 r hr
            · rw [up_st]
              exact upB_low (ntS_mono hC) gI.2 u0 u3
            · rw [orb q, nb q] at hb
              rw [up_st]
              unfold stl
              by_cases e : q = i
              · subst e; rw [st1_s]; exact u2
              · have : decide (i = q) = false := by simp; exact fun x => e x.symm
                rw [this] at hb
                have hb' : bit op q = false ∧ bit (h 49 i) q = false := by simpa using hb
                rw [st1_n e, ntS_ind hC (by omega) hq e hb'.2]
                exact hs q hq hb'.1
            · rw [up_st, hsm]
              rcases hc with c | ⟨c, -⟩
              · omega
              · subst c; omega
        · rw [w32_n i9]
          refine ih (i + 1) (by omega) g op hg gI o0 o1 hs ?_
          rcases hc with c | ⟨c, hb⟩
          · exact Or.inl c
          · refine Or.inr ⟨c, fun q hq => ?_⟩
            by_cases e : q = i
            · subst e; simpa using qb
            · exact hb q (by omega)
    refine b73_48 (br_i (fun q => absurd q (by omega)) (fun _ => br_i (fun q => absurd q hop) (fun _ => ?_)))
    exact L n 0 (by omega) g0 op0 hg0 gI0 o0 o1 hs0 (Or.inr ⟨rfl, fun q hq => absurd hq (by omega)⟩)
end CLS
