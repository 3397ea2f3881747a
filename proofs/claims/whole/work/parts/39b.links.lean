/-! settle -/
set_option maxHeartbeats 8000000 in
theorem c_links {d : Nat} {h : HP} {Q : PV → HP → Prop} {G : Nat → Int} (hR : RK h) (hS : SCN h) (hG : ∀ p, p < (h 2 0).toNat → G p = GC h p) (hGr : ∀ p, p < (h 2 0).toNat → 0 ≤ G p ∧ G p ≤ 100000) (H : ∀ h', FS h h' → GR (h 2 0).toNat (ntC h) (h' 48) → Q (I 0) h') {g : HP} (hg : GFL h g (h 2 0).toNat G) (hM : MTX g (h 2 0).toNat 0 0 (h 13) (h 14) (h 43) (h 18) (h 19) (h 20) (bR (h 41 8))) : X (d + 4) 65 155 [some (P 41), some (I 0)] [] g Q := by
  obtain ⟨⟨r56, r57, r58, r59, r60, r61, r62, r63, r64, r65⟩, ⟨r78, r79, r80⟩, ⟨r84, r85, r86, r87⟩, ⟨r90, r91, r92, r93, r94, r95, r96, r97⟩, ⟨r99, r101, r103, r104, r105⟩⟩ := id hR
  have k1 := lnk_j hR hS
  have k2 := lnk_p hR
  obtain ⟨⟨-, -, -, ⟨ys0, ys1⟩⟩, ⟨-, -, ⟨fz0, fz1⟩, -, -⟩, -⟩ := id hS
  have n8 : (h 2 0).toNat ≤ 8 := by omega
  have L2 : ∀ k i : Nat, i + k = (h 17 1).toNat → ∀ g, GFL h g (h 2 0).toNat G → MTX g (h 2 0).toNat (h 12 1).toNat i (h 13) (h 14) (h 43) (h 18) (h 19) (h 20) (bR (h 41 8)) → X (d + 4) 65 214 [some (P 41), some (I i)] [] g Q := by
    intro k
    induction k with
    | zero =>
      intro i hi g hg hM
      have e17 : g 17 = h 17 := hg.1 17 (by decide)
      have ei : i = (h 17 1).toNat := by omega
      subst ei
      refine b65_214 (br_i (fun q => ?_) (fun q => absurd (by rw [e17]; omega) q))
      have hC : CS g (h 2 0).toNat (h 12 1).toNat (h 17 1).toNat (h 13) (h 14) (h 43) (h 18) (h 19) (h 20) (bR (h 41 8)) := by
        refine ⟨⟨hg.2.1, n8, by omega, by omega⟩, ?_, fun p hp => ?_, ⟨k1, k2⟩, hM.1, hM.2.1, hM.2.2.1, hM.2.2.2⟩
        · rw [hg.1 31 (by decide), hg.1 4 (by decide)]
          exact ⟨r85, r84, r78⟩
        · rw [hg.2.2.1 p (by omega), (hg.2.2.2 p hp).1]
          have := sb_r (co := h 5) (yr := h 41 3) p r87 ys0 ys1
          exact ⟨hGr p hp, this.1, this.2.1⟩
      refine c_solve hC (fun h' ho hGR => b65_298 (H h' ?_ ?_))
      · intro q hq
        rw [ho q (by omega)]
        exact hg.1 q hq
      · refine GR_c (fun w p hp => ?_) hGR
        unfold ntS ntC nt TS TC
        rw [hg.2.2.1 p (by omega), (hg.2.2.2 p hp).1, (hg.2.2.2 p hp).2, hG p hp, hg.1 31 (by decide), hg.1 4 (by decide)]
    | succ k ih =>
      intro i hi g hg hM
      have e17 : g 17 = h 17 := hg.1 17 (by decide)
      have e41 : g 41 = h 41 := hg.1 41 (by decide)
      have hi17 : i < (h 17 1).toNat := by omega
      have K := k2 i hi17
      obtain ⟨a0, a1, b0, b1, hne, l0, l1⟩ := K
      refine b65_214 (br_i (fun q => absurd q (by rw [e17]; omega)) (fun _ => ?_))
      rw [e41, bit_c fz0 (by omega) (by omega) (by omega), hg.1 18 (by decide), hg.1 19 (by decide), hg.1 20 (by decide)]
      simp only [Int.toNat_natCast]
      refine br_i (fun qb => an_i (by omega) (by omega) (an_i (by omega) (by omega) (an_i (by omega) (by omega) ?_))) (fun qb => b65_285 ?_)
      · have x1 := hM.1 (h 18 i).toNat (h 19 i).toNat (by omega) (by omega)
        have x2 := dP_r (z := bR (h 41 8)) (m := i) (fun j hj => k2 j (by omega)) (by omega) (h 18 i).toNat (h 19 i).toNat
        refine c_addP a0 (by omega) b0 (by omega) hne (by omega) l0 l1 (fun g' f1 f2 f3 => b65_285 ?_)
        rw [w32_n (i := i) (by omega)]
        refine ih (i + 1) (by omega) g' (GFL_o hg (fun q hq => ?_) (f1 44 (by decide) (by decide)) (f1 45 (by decide) (by decide)) (f1 46 (by decide) (by decide)) (f1 47 (by decide) (by decide))) ?_
        · rw [f1 q (by omega) (by omega)]; exact hg.1 q hq
        · exact MTX_p n8 k2 (by omega) (bR_c.mpr qb) hM (f1 50 (by decide) (by decide)) f2 f3
      · rw [w32_n (i := i) (by omega)]
        exact ih (i + 1) (by omega) g hg (MTX_p0 hM (fun x => by rw [bR_c.mp x] at qb; exact qb rfl))
  have L1 : ∀ k i : Nat, i + k = (h 12 1).toNat → ∀ g, GFL h g (h 2 0).toNat G → MTX g (h 2 0).toNat i 0 (h 13) (h 14) (h 43) (h 18) (h 19) (h 20) (bR (h 41 8)) → X (d + 4) 65 155 [some (P 41), some (I i)] [] g Q := by
    intro k
    induction k with
    | zero =>
      intro i hi g hg hM
      have e12 : g 12 = h 12 := hg.1 12 (by decide)
      have ei : i = (h 12 1).toNat := by omega
      subst ei
      exact b65_155 (br_i (fun q => L2 (h 17 1).toNat 0 (by omega) g hg hM) (fun q => absurd (by rw [e12]; omega) q))
    | succ k ih =>
      intro i hi g hg hM
      have e12 : g 12 = h 12 := hg.1 12 (by decide)
      obtain ⟨a0, a1, b0, b1, hne, l0, l1⟩ := k1 i (by omega)
      have x1 := hM.1 (h 13 i).toNat (h 14 i).toNat (by omega) (by omega)
      have x2 := dJ_r (m := i) (fun j hj => k1 j (by omega)) (by omega) (h 13 i).toNat (h 14 i).toNat
      have y1 := hM.1 (h 14 i).toNat (h 13 i).toNat (by omega) (by omega)
      have y2 := dJ_r (m := i) (fun j hj => k1 j (by omega)) (by omega) (h 14 i).toNat (h 13 i).toNat
      refine b65_155 (br_i (fun q => absurd q (by rw [e12]; omega)) (fun _ => ?_))
      rw [hg.1 13 (by decide), hg.1 14 (by decide), hg.1 43 (by decide)]
      simp only [Int.toNat_natCast]
      refine an_i (by omega) (by omega) (an_i (by omega) (by omega) (an_i (by omega) (by omega) (c_addJ a0 (by omega) b0 (by omega) hne (by omega) (by omega) l0 l1 (fun el => b65_206 ?_) (fun g' f1 f2 f3 => b65_206 ?_))))
      · rw [w32_n (i := i) (by omega)]
        exact ih (i + 1) (by omega) g hg (MTX_j0 hM el)
      · rw [w32_n (i := i) (by omega)]
        refine ih (i + 1) (by omega) g' (GFL_o hg (fun q hq => ?_) (f1 44 (by decide) (by decide)) (f1 45 (by decide) (by decide)) (f1 46 (by decide) (by decide)) (f1 47 (by decide) (by decide))) ?_
        · rw [f1 q (by omega) (by omega)]; exact hg.1 q hq
        · exact MTX_j n8 k1 (by omega) hM (f1 51 (by decide) (by decide)) f2 f3
  exact L1 (h 12 1).toNat 0 (by omega) g hg hM
