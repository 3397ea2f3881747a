/-! settle -/
theorem ex_r {h : HP} (hS : SCN h) (p : Nat) : 0 ≤ exC h p ∧ exC h p ≤ 999 := by
  obtain ⟨-, ⟨-, -, -, -, ⟨e0, e1⟩⟩, -⟩ := hS
  unfold exC
  split <;> omega
set_option maxHeartbeats 8000000 in
theorem c_heat {d : Nat} {h : HP} {Q : PV → HP → Prop} (hR : RK h) (hS : SCN h) (H : ∀ h', FS h h' → GR (h 2 0).toNat (ntC h) (h' 48) → Q (I 0) h') : ∀ k i : Nat, i + k = (h 26 2).toNat → ∀ g, GFL h g (h 2 0).toNat (fun p => (if p < (h 2 0).toNat then tkC h p else 0) + exC h p + sm (bxF (h 24) (h 42) (bR (h 41 6)) (h 41 4) p) (h 22 2).toNat + sm (htF (h 28) (h 27) (bR (h 41 7)) p) i) → (∀ p, p < 8 → g 49 p = 0) → (∀ j, j < 64 → g 50 j = 0) → (∀ j, j < 64 → g 51 j = 0) → X (d + 3) 66 75 [some (P 41), some (I i)] [] g (fun _ h' => X (d + 4) 65 153 [some (P 41), some (I (h 2 0))] [] h' Q) := by
  obtain ⟨⟨r56, r57, r58, r59, r60, r61, r62, r63, r64, r65⟩, ⟨r78, r79, r80⟩, ⟨r84, r85, r86, r87⟩, ⟨r90, r91, r92, r93, r94, r95, r96, r97⟩, ⟨r99, r101, r103, r104, r105⟩⟩ := id hR
  obtain ⟨⟨⟨sn0, sn1⟩, ⟨yr0, yr1⟩, ⟨wb0, wb1⟩, ⟨ys0, ys1⟩⟩, ⟨⟨wk0, wk1⟩, ⟨bn0, bn1⟩, ⟨fz0, fz1⟩, ⟨eo0, eo1⟩, ⟨ex0, ex1⟩⟩, ⟨s42, s43⟩⟩ := id hS
  have n8 : (h 2 0).toNat ≤ 8 := by omega
  have tkr := fun p => tk_r (co := h 5) (yr := h 41 3) p r78 sn0 sn1 r86 r80
  have bb := fun (p n : Nat) => sm_b (f := bxF (h 24) (h 42) (bR (h 41 6)) (h 41 4) p) (n := n) (a := 0) (b := 1500) (fun j _ => ⟨(bx_r p j r101 wb0 wb1).1, (bx_r p j r101 wb0 wb1).2.1⟩)
  have hb := fun (p n : Nat) => sm_b (f := htF (h 28) (h 27) (bR (h 41 7)) p) (n := n) (a := 0) (b := 999) (fun j _ => ht_r p j r105)
  have exr := ex_r hS
  intro k
  induction k with
  | zero =>
    intro i hi g hg z1 z2 z3
    have e26 : g 26 = h 26 := hg.1 26 (by decide)
    have ei : i = (h 26 2).toNat := by omega
    subst ei
    refine b66_75 (br_i (fun q => b65_153 ?_) (fun q => absurd (by rw [e26]; omega) q))
    refine c_links hR hS (fun p hp => ?_) (fun p hp => ?_) H hg (MTX_0 z1 z2 z3)
    · simp only [hp, if_true]; rfl
    · have t1 := tkr p
      have t2 := exr p
      have t3 := bb p (h 22 2).toNat
      have t4 := hb p (h 26 2).toNat
      simp only [hp, if_true]
      unfold tkC
      omega
  | succ k ih =>
    intro i hi g hg z1 z2 z3
    have e26 : g 26 = h 26 := hg.1 26 (by decide)
    have e41 : g 41 = h 41 := hg.1 41 (by decide)
    refine b66_75 (br_i (fun q => absurd q (by rw [e26]; omega)) (fun _ => ?_))
    rw [e41, bit_c bn0 (by omega) (by omega) (by omega), hg.1 27 (by decide), hg.1 28 (by decide)]
    simp only [Int.toNat_natCast]
    have x27 := r103 i
    have x28 := r105 i
    refine br_i (fun qb => an_i (by omega) (by omega) (an_i (by omega) (by omega) (an_i (by omega) (by omega) (an_i (by omega) (by omega) (b66_138 ?_))))) (fun qb => b66_138 ?_)
    · have t1 := tkr (h 27 i).toNat
      have t2 := exr (h 27 i).toNat
      have t3 := bb (h 27 i).toNat (h 22 2).toNat
      have t4 := hb (h 27 i).toNat i
      have e45 := hg.2.2.1 (h 27 i).toNat (by omega)
      dsimp only at e45
      have t5 : 0 ≤ g 45 (h 27 i).toNat ∧ g 45 (h 27 i).toNat ≤ 60000 := by
        rw [e45]
        unfold tkC
        split <;> omega
      rw [w32_n (i := i) (by omega), w32_of (x := g 45 (h 27 i).toNat + h 28 i) (by omega) (by omega)]
      refine ih (i + 1) (by omega) _ ⟨FS_u hg.1 (by decide) (by decide), by rw [up_p (by decide)]; exact hg.2.1, fun p hp => ?_, fun p hp => by rw [up_p (by decide), up_p (by decide)]; exact hg.2.2.2 p hp⟩ (by rw [up_p (by decide)]; exact z1) (by rw [up_p (by decide)]; exact z2) (by rw [up_p (by decide)]; exact z3)
      rw [up_st]
      have bi : bR (h 41 7) i = 1 := by unfold bR; rw [if_pos (by simpa using qb)]
      by_cases e : p = (h 27 i).toNat
      · subst e
        rw [st1_s, e45]
        have : htF (h 28) (h 27) (bR (h 41 7)) (h 27 i).toNat i = h 28 i := by
          unfold htF; rw [if_pos ⟨by rw [bi]; decide, by omega⟩]
        simp only [sm]
        omega
      · rw [st1_n e, hg.2.2.1 p hp]
        have : htF (h 28) (h 27) (bR (h 41 7)) p i = 0 := by
          unfold htF; rw [if_neg (by omega)]
        simp only [sm]
        omega
    · rw [w32_n (i := i) (by omega)]
      refine ih (i + 1) (by omega) g ⟨hg.1, hg.2.1, fun p hp => ?_, hg.2.2.2⟩ z1 z2 z3
      rw [hg.2.2.1 p hp]
      have : htF (h 28) (h 27) (bR (h 41 7)) p i = 0 := by
        unfold htF; rw [if_neg (fun x => x.1 (bR_c.mpr (by simpa using qb)))]
      simp only [sm]
      omega
