/-! settle -/
set_option maxHeartbeats 8000000 in
theorem c_plts {d : Nat} {h : HP} {Q : PV → HP → Prop} (hR : RK h) (hS : SCN h) (H : ∀ h', FS h h' → GR (h 2 0).toNat (ntC h) (h' 48) → Q (I 0) h') : ∀ k i : Nat, i + k = (h 2 0).toNat → ∀ g, GFL h g i (fun p => if p < i then tkC h p else 0) → (∀ p, p < 8 → g 49 p = 0) → (∀ j, j < 64 → g 50 j = 0) → (∀ j, j < 64 → g 51 j = 0) → X (d + 4) 65 19 [some (P 41), some (I i)] [] (up2 g 44 1 (h 2 0)) Q := by
  obtain ⟨⟨r56, r57, r58, r59, r60, r61, r62, r63, r64, r65⟩, ⟨r78, r79, r80⟩, ⟨r84, r85, r86, r87⟩, ⟨r90, r91, r92, r93, r94, r95, r96, r97⟩, ⟨r99, r101, r103, r104, r105⟩⟩ := id hR
  obtain ⟨⟨⟨sn0, sn1⟩, ⟨yr0, yr1⟩, ⟨wb0, wb1⟩, ⟨ys0, ys1⟩⟩, ⟨⟨wk0, wk1⟩, ⟨bn0, bn1⟩, ⟨fz0, fz1⟩, ⟨eo0, eo1⟩, ⟨ex0, ex1⟩⟩, ⟨s42, s43⟩⟩ := id hS
  have n8 : (h 2 0).toNat ≤ 8 := by omega
  have tkr := fun p => tk_r (co := h 5) (yr := h 41 3) p r78 sn0 sn1 r86 r80
  have bb := fun (p n : Nat) => sm_b (f := bxF (h 24) (h 42) (bR (h 41 6)) (h 41 4) p) (n := n) (a := 0) (b := 1500) (fun j _ => ⟨(bx_r p j r101 wb0 wb1).1, (bx_r p j r101 wb0 wb1).2.1⟩)
  have hb := fun (p n : Nat) => sm_b (f := htF (h 28) (h 27) (bR (h 41 7)) p) (n := n) (a := 0) (b := 999) (fun j _ => ht_r p j r105)
  have exr := ex_r hS
  have L2 := c_boxs (d := d) hR hS H
  intro k
  induction k with
  | zero =>
    intro i hi g hg z1 z2 z3
    have e2 : up2 g 44 1 (h 2 0) 2 = h 2 := by rw [up_p (by decide)]; exact hg.1 2 (by decide)
    have e41 : up2 g 44 1 (h 2 0) 41 = h 41 := by rw [up_p (by decide)]; exact hg.1 41 (by decide)
    have e5 : up2 g 44 1 (h 2 0) 45 = g 45 := up_p (by decide)
    have ei : i = (h 2 0).toNat := by omega
    subst ei
    refine b65_19 (br_i (fun q => ?_) (fun q => absurd (by rw [e2]; omega) q))
    rw [e41, e5]
    have t1 := tkr (h 41 10).toNat
    have e45 := hg.2.2.1 (h 41 10).toNat (by omega)
    dsimp only at e45
    have t5 : 0 ≤ g 45 (h 41 10).toNat ∧ g 45 (h 41 10).toNat ≤ 60000 := by
      rw [e45]
      unfold tkC
      split <;> omega
    rw [w32_of (x := g 45 (h 41 10).toNat + h 41 11) (by omega) (by omega)]
    refine an_i (by omega) (by omega) (an_i (by omega) (by omega) (b66_0 ?_))
    have e20 : (((h 2 0).toNat : Nat) : Int) = h 2 0 := by omega
    rw [e20]
    refine L2 (h 22 2).toNat 0 (by omega) _ ⟨FS_u (FS_u hg.1 (by decide) (by decide)) (by decide) (by decide), ?_, fun p hp => ?_, fun p hp => ?_⟩ ?_ ?_ ?_
    · rw [up_p (by decide), up_s]; omega
    · rw [up_st, e5]
      simp only [sm, Int.add_zero]
      unfold exC
      by_cases e : p = (h 41 10).toNat
      · subst e
        rw [st1_s, e45, if_pos (show h 41 10 = (((h 41 10).toNat : Nat) : Int) by omega)]
      · rw [st1_n e, hg.2.2.1 p hp]
        have ne : ¬ h 41 10 = (p : Int) := by omega
        simp only [ne, if_false, Int.add_zero]
    · rw [up_p (by decide), up_p (by decide), up_p (by decide), up_p (by decide)]; exact hg.2.2.2 p hp
    · rw [up_p (by decide), up_p (by decide)]; exact z1
    · rw [up_p (by decide), up_p (by decide)]; exact z2
    · rw [up_p (by decide), up_p (by decide)]; exact z3
  | succ k ih =>
    intro i hi g hg z1 z2 z3
    have e2 : up2 g 44 1 (h 2 0) 2 = h 2 := by rw [up_p (by decide)]; exact hg.1 2 (by decide)
    have e41 : up2 g 44 1 (h 2 0) 41 = h 41 := by rw [up_p (by decide)]; exact hg.1 41 (by decide)
    have eq := fun q (hq : q < 44) => (show up2 g 44 1 (h 2 0) q = h q by rw [up_p (by omega)]; exact hg.1 q (by omega))
    have sb := sb_r (co := h 5) (yr := h 41 3) i r87 ys0 ys1
    refine b65_19 (br_i (fun q => absurd q (by rw [e2]; omega)) (fun _ => ?_))
    rw [e41]
    refine c_taken (by omega) (by omega) sn0 sn1 yr0 yr1 (by rw [eq 4 (by decide)]; exact r78) (by rw [eq 5 (by decide)]; exact r79) (by rw [eq 6 (by decide)]; exact r80) (by rw [eq 32 (by decide)]; exact r86) (b65_57 (an_i (by omega) (by omega) ?_))
    rw [eq 4 (by decide), eq 5 (by decide), eq 32 (by decide), eq 6 (by decide), e41]
    simp only [Int.toNat_natCast]
    refine c_sendsOf (by omega) (by omega) yr0 yr1 (by rw [up_p (by decide), eq 5 (by decide)]; exact r79) (b65_80 ?_)
    rw [up_p (p := 45) (q := 33) (by decide), up_p (p := 45) (q := 5) (by decide), up_p (p := 45) (q := 41) (by decide), eq 33 (by decide), eq 5 (by decide), e41]
    simp only [Int.toNat_natCast]
    rw [w32_of (x := h 33 (h 5 i * 10 + h 41 3).toNat * h 41 5) (by omega) (by omega), tdv sb.2.2.1, w32_of (x := h 33 (h 5 i * 10 + h 41 3).toNat * h 41 5 / 100) (by omega) (by omega)]
    have K : ∀ y : Int, y = sbF (h 33) (h 5) (h 41 3) (h 41 5) i → X (d + 4) 65 91 [some (P 41), some (I i)] [I y, I i, P 46] (up2 (up2 g 44 1 (h 2 0)) 45 i (tkF (h 4) (h 5) (h 32) (h 6) (h 41 2) (h 41 3) i)) Q := by
      intro y hy
      subst hy
      have D : ∀ x : Int, x = drC h i → X (d + 4) 65 123 [some (P 41), some (I i)] [I x, I i, P 47] (up2 (up2 (up2 g 44 1 (h 2 0)) 45 i (tkF (h 4) (h 5) (h 32) (h 6) (h 41 2) (h 41 3) i)) 46 i (sbF (h 33) (h 5) (h 41 3) (h 41 5) i)) Q := by
        intro x hx
        subst hx
        refine b65_123 (an_i (by omega) (by omega) ?_)
        rw [w32_n (i := i) (by omega)]
        simp only [Int.toNat_natCast]
        have ec : up2 (up2 (up2 (up2 g 44 1 (h 2 0)) 45 i (tkF (h 4) (h 5) (h 32) (h 6) (h 41 2) (h 41 3) i)) 46 i (sbF (h 33) (h 5) (h 41 3) (h 41 5) i)) 47 i (drC h i) = up2 (up2 (up2 (up2 (up2 g 44 1 ((i + 1 : Nat) : Int)) 45 i (tkF (h 4) (h 5) (h 32) (h 6) (h 41 2) (h 41 3) i)) 46 i (sbF (h 33) (h 5) (h 41 3) (h 41 5) i)) 47 i (drC h i)) 44 1 (h 2 0) := by
          funext q j
          simp only [up2]
          by_cases c : q = 44 ∧ j = 1
          · obtain ⟨c1, c2⟩ := c
            subst c1 c2
            simp
          · simp only [c, if_false]
        rw [ec]
        refine ih (i + 1) (by omega) _ ⟨FS_u (FS_u (FS_u (FS_u hg.1 (by decide) (by decide)) (by decide) (by decide)) (by decide) (by decide)) (by decide) (by decide), ?_, fun p hp => ?_, fun p hp => ?_⟩ ?_ ?_ ?_
        · rw [up_p (by decide), up_p (by decide), up_p (by decide), up_s]
        · rw [up_p (by decide), up_p (by decide), up_st, up_p (by decide)]
          by_cases e : p = i
          · subst e
            rw [st1_s]
            show _ = (if p < p + 1 then tkC h p else 0)
            rw [if_pos (by omega)]; rfl
          · rw [st1_n e, hg.2.2.1 p hp]
            by_cases e3 : p < i
            · simp only [e3, if_true, show p < i + 1 by omega]
            · simp only [e3, if_false, show ¬ p < i + 1 by omega]
        · rw [up_st, up_p (p := 47) (q := 46) (by decide), up_st, up_p (by decide), up_p (by decide), up_p (by decide), up_p (by decide), up_p (by decide)]
          by_cases e : p = i
          · subst e
            exact ⟨st1_s, st1_s⟩
          · rw [st1_n e, st1_n e]; exact hg.2.2.2 p (by omega)
        · rw [up_p (by decide), up_p (by decide), up_p (by decide), up_p (by decide)]; exact z1
        · rw [up_p (by decide), up_p (by decide), up_p (by decide), up_p (by decide)]; exact z2
        · rw [up_p (by decide), up_p (by decide), up_p (by decide), up_p (by decide)]; exact z3
      refine b65_91 (an_i (by omega) (by omega) ?_)
      rw [up_p (p := 45) (q := 41) (by decide), up_p (p := 45) (q := 9) (by decide), e41, eq 9 (by decide)]
      simp only [Int.toNat_natCast]
      refine br_i (fun qo => an_i (by omega) (by omega) (D _ ?_)) (fun qo => D _ ?_)
      · unfold drC; rw [if_pos qo]
      · unfold drC; rw [if_neg qo]
    refine z225 (br_i (fun qm => K _ ?_) (fun qm => K _ ?_))
    · unfold sbF; rw [if_pos (by omega)]
    · unfold sbF
      split <;> omega
