/-! settle, the loops -/
set_option maxHeartbeats 4000000 in
theorem c_addJ {d : Nat} {g : HP} {Q : PV → HP → Prop} {A B l : Int} (a0 : 0 ≤ A) (a8 : A < 8) (b0 : 0 ≤ B) (b8 : B < 8) (hne : A ≠ B) (x1 : 0 ≤ g 50 (A.toNat * 8 + B.toNat) ∧ g 50 (A.toNat * 8 + B.toNat) ≤ 1980) (x2 : 0 ≤ g 50 (B.toNat * 8 + A.toNat) ∧ g 50 (B.toNat * 8 + A.toNat) ≤ 1980) (l0 : 0 ≤ l) (l1 : l ≤ 99) (H0 : l = 0 → Q (I 0) g) (H1 : ∀ g', (∀ q, q ≠ 49 → q ≠ 50 → g' q = g q) → g' 50 = st1 (st1 (g 50) (A.toNat * 8 + B.toNat) (g 50 (A.toNat * 8 + B.toNat) + l)) (B.toNat * 8 + A.toNat) (st1 (g 50) (A.toNat * 8 + B.toNat) (g 50 (A.toNat * 8 + B.toNat) + l) (B.toNat * 8 + A.toNat) + l) → g' 49 = st1 (st1 (g 49) A.toNat (bOr (g 49 A.toNat) (bShl 1 (B.toNat : Int)))) B.toNat (bOr (g 49 B.toNat) (bShl 1 (A.toNat : Int))) → Q (I 0) g') : X d 71 0 [some (P 44), some (I A), some (I B), some (I l)] [] g Q := by
  obtain ⟨a, rfl⟩ := Int.eq_ofNat_of_zero_le a0
  obtain ⟨b, rfl⟩ := Int.eq_ofNat_of_zero_le b0
  simp only [Int.toNat_natCast] at *
  refine b71_0 ?_
  rw [ix8 (show a < 8 by omega) (show b < 8 by omega), ix8 (show b < 8 by omega) (show a < 8 by omega)]
  simp only [Int.toNat_natCast]
  rw [w32_of (x := g 50 (a * 8 + b) + l) (by omega) (by omega), up_i (show b * 8 + a ≠ a * 8 + b by omega), w32_of (x := g 50 (b * 8 + a) + l) (by omega) (by omega)]
  refine br_i (fun q => an_i (by omega) (by omega) (an_i (by omega) (by omega) (an_i (by omega) (by omega) (an_i (by omega) (by omega) (an_i (by omega) (by omega) (an_i (by omega) (by omega) (an_i (by omega) (by omega) (an_i (by omega) (by omega) (H1 _ ?_ ?_ ?_))))))))) (fun q => H0 (by omega))
  · intro q h1 h2
    rw [up_p h1, up_p h1, up_p h2, up_p h2]
  · rw [up_p (by decide), up_p (by decide), up_st, up_st, st1_n (show b * 8 + a ≠ a * 8 + b by omega)]
  · rw [up_st, up_st, up_i (show b ≠ a by omega), up_p (by decide), up_p (by decide)]
set_option maxHeartbeats 4000000 in
theorem c_addP {d : Nat} {g : HP} {Q : PV → HP → Prop} {A B l : Int} (a0 : 0 ≤ A) (a8 : A < 8) (b0 : 0 ≤ B) (b8 : B < 8) (hne : A ≠ B) (x1 : 0 ≤ g 51 (A.toNat * 8 + B.toNat) ∧ g 51 (A.toNat * 8 + B.toNat) ≤ 1980) (l0 : 0 ≤ l) (l1 : l ≤ 99) (H1 : ∀ g', (∀ q, q ≠ 49 → q ≠ 51 → g' q = g q) → g' 51 = st1 (g 51) (A.toNat * 8 + B.toNat) (g 51 (A.toNat * 8 + B.toNat) + l) → g' 49 = st1 (st1 (g 49) A.toNat (bOr (g 49 A.toNat) (bShl 1 (B.toNat : Int)))) B.toNat (bOr (g 49 B.toNat) (bShl 1 (A.toNat : Int))) → Q (I 0) g') : X d 72 0 [some (P 44), some (I A), some (I B), some (I l)] [] g Q := by
  obtain ⟨a, rfl⟩ := Int.eq_ofNat_of_zero_le a0
  obtain ⟨b, rfl⟩ := Int.eq_ofNat_of_zero_le b0
  simp only [Int.toNat_natCast] at *
  refine b72_0 ?_
  rw [ix8 (show a < 8 by omega) (show b < 8 by omega)]
  simp only [Int.toNat_natCast]
  rw [w32_of (x := g 51 (a * 8 + b) + l) (by omega) (by omega)]
  refine an_i (by omega) (by omega) (an_i (by omega) (by omega) (an_i (by omega) (by omega) (an_i (by omega) (by omega) (an_i (by omega) (by omega) (an_i (by omega) (by omega) (H1 _ ?_ ?_ ?_))))))
  · intro q h1 h2
    rw [up_p h1, up_p h1, up_p h2]
  · rw [up_p (by decide), up_p (by decide), up_st]
  · rw [up_st, up_st, up_i (show b ≠ a by omega), up_p (by decide)]
/-- what the solver needs to know of the class's rows -/
def RK (h : HP) : Prop :=
  (0 ≤ h 2 0 ∧ h 2 0 ≤ 8 ∧ 0 ≤ h 12 1 ∧ h 12 1 ≤ 20 ∧ 0 ≤ h 17 1 ∧ h 17 1 ≤ 8 ∧ 0 ≤ h 22 2 ∧ h 22 2 ≤ 8 ∧ 0 ≤ h 26 2 ∧ h 26 2 ≤ 4) ∧
  (rgA (h 4) 0 20 ∧ rgA (h 5) 0 3 ∧ rgA (h 6) 0 2) ∧
  (rgA (h 31) 0 9999 ∧ rise (h 31) ∧ rgA (h 32) 0 100 ∧ rgA (h 33) 0 100) ∧
  (rgA (h 13) 0 7 ∧ rgA (h 14) 0 7 ∧ rgA (h 15) 0 99 ∧ ends (h 13) (h 14) (h 12 1) (h 2 0) ∧ rgA (h 18) 0 7 ∧ rgA (h 19) 0 7 ∧ rgA (h 20) 0 99 ∧ ends (h 18) (h 19) (h 17 1) (h 2 0)) ∧
  (rgA (h 23) 0 7 ∧ rgA (h 24) 0 999 ∧ rgA (h 27) 0 7 ∧ below (h 27) (h 26 2) (h 2 0) ∧ rgA (h 28) 0 999)
theorem lnk_j {h : HP} (hR : RK h) (hS : SCN h) : lnk (h 2 0).toNat (h 12 1).toNat (h 13) (h 14) (h 43) := by
  obtain ⟨⟨r56, r57, r58, r59, r60, r61, r62, r63, r64, r65⟩, ⟨r78, r79, r80⟩, ⟨r84, r85, r86, r87⟩, ⟨r90, r91, r92, r93, r94, r95, r96, r97⟩, ⟨r99, r101, r103, r104, r105⟩⟩ := id hR
  intro j hj
  have x1 := r90 j
  have x2 := r91 j
  have x3 := r93 j (by omega)
  have x4 := hS.2.2.2 j (by omega)
  omega
theorem lnk_p {h : HP} (hR : RK h) : lnk (h 2 0).toNat (h 17 1).toNat (h 18) (h 19) (h 20) := by
  obtain ⟨⟨r56, r57, r58, r59, r60, r61, r62, r63, r64, r65⟩, ⟨r78, r79, r80⟩, ⟨r84, r85, r86, r87⟩, ⟨r90, r91, r92, r93, r94, r95, r96, r97⟩, ⟨r99, r101, r103, r104, r105⟩⟩ := id hR
  intro j hj
  have x1 := r94 j
  have x2 := r95 j
  have x3 := r97 j (by omega)
  have x4 := r96 j
  omega
theorem bR_c {x : Int} {k : Nat} : (bR x k = 0) ↔ bit x k = false := by
  unfold bR
  cases bit x k <;> simp
/-- rows of the solver but those of links -/
def GFL (h g : HP) (n : Nat) (G : Nat → Int) : Prop := FS h g ∧ g 44 1 = n ∧ (∀ p, p < 8 → g 45 p = G p) ∧ (∀ p, p < n → g 46 p = sbF (h 33) (h 5) (h 41 3) (h 41 5) p ∧ g 47 p = drC h p)
theorem GFL_o {h g g' : HP} {n : Nat} {G : Nat → Int} (H : GFL h g n G) (hf : FS h g') (e4 : g' 44 = g 44) (e5 : g' 45 = g 45) (e6 : g' 46 = g 46) (e7 : g' 47 = g 47) : GFL h g' n G := by
  unfold GFL at *
  rw [e4, e5, e6, e7]
  exact ⟨hf, H.2⟩
set_option maxHeartbeats 8000000 in
theorem c_links {d : Nat} {h : HP} {Q : PV → HP → Prop} {G : Nat → Int} (hR : RK h) (hS : SCN h) (hG : ∀ p, p < (h 2 0).toNat → G p = GC h p) (hGr : ∀ p, p < (h 2 0).toNat → 0 ≤ G p ∧ G p ≤ 100000) (H : ∀ h', FS h h' → GR (h 2 0).toNat (ntC h) (h' 48) → Q (I 0) h') {g : HP} (hg : GFL h g (h 2 0).toNat G) (hM : MTX g (h 2 0).toNat 0 0 (h 13) (h 14) (h 43) (h 18) (h 19) (h 20) (bR (h 41 8))) : X (d + 4) 65 155 [some (P 41), some (I 0)] [] g Q := by
  obtain ⟨⟨r56, r57, r58, r59, r60, r61, r62, r63, r64, r65⟩, ⟨r78, r79, r80⟩, ⟨r84, r85, r86, r87⟩, ⟨r90, r91, r92, r93, r94, r95, r96, r97⟩, ⟨r99, r101, r103, r104, r105⟩⟩ := id hR
  have k1 := lnk_j hR hS
  have k2 := lnk_p hR
  obtain ⟨⟨-, -, -, ⟨ys0, ys1⟩⟩, ⟨-, -, ⟨fz0, fz1⟩, -, -⟩, -⟩ := id hS
  have n8 : (h 2 0).toNat ≤ 8 := by omega
  have L2 : ∀ k i : Nat, i + k = (h 17 1).toNat → ∀ g, GFL h g (h 2 0).toNat G → MTX g (h 2 0).toNat (h 12 1).toNat i (h 13) (h 14) (h 43) (h 18) (h 19) (h 20) (bR (h 41 8)) → X (d + 4) 65 214 [some (P 41), some (I i)] [] g Q := by
    intro k
    induction k with
    | zero =>
      intro i hi g hg hM
      have e17 : g 17 = h 17 := hg.1 17 (by decide)
      have ei : i = (h 17 1).toNat := by omega
      subst ei
      refine b65_214 (br_i (fun q => ?_) (fun q => absurd (by rw [e17]; omega) q))
      have hC : CS g (h 2 0).toNat (h 12 1).toNat (h 17 1).toNat (h 13) (h 14) (h 43) (h 18) (h 19) (h 20) (bR (h 41 8)) := by
        refine ⟨⟨hg.2.1, n8, by omega, by omega⟩, ?_, fun p hp => ?_, ⟨k1, k2⟩, hM.1, hM.2.1, hM.2.2.1, hM.2.2.2⟩
        · rw [hg.1 31 (by decide), hg.1 4 (by decide)]
          exact ⟨r85, r84, r78⟩
        · rw [hg.2.2.1 p (by omega), (hg.2.2.2 p hp).1]
          have := sb_r (co := h 5) (yr := h 41 3) p r87 ys0 ys1
          exact ⟨hGr p hp, this.1, this.2.1⟩
      refine c_solve hC (fun h' ho hGR => b65_298 (H h' ?_ ?_))
      · intro q hq
        rw [ho q (by omega)]
        exact hg.1 q hq
      · refine GR_c (fun w p hp => ?_) hGR
        unfold ntS ntC nt TS TC
        rw [hg.2.2.1 p (by omega), (hg.2.2.2 p hp).1, (hg.2.2.2 p hp).2, hG p hp, hg.1 31 (by decide), hg.1 4 (by decide)]
    | succ k ih =>
      intro i hi g hg hM
      have e17 : g 17 = h 17 := hg.1 17 (by decide)
      have e41 : g 41 = h 41 := hg.1 41 (by decide)
      have e1 : w32 ((i : Int) + 1) = ((i + 1 : Nat) : Int) := by rw [w32_of (by omega) (by omega)]; omega
      obtain ⟨a0, a1, b0, b1, hne, l0, l1⟩ := k2 i (by omega)
      refine b65_214 (br_i (fun q => absurd q (by rw [e17]; omega)) (fun _ => ?_))
      rw [e41, bit_c fz0 (by omega) (by omega) (by omega), hg.1 18 (by decide), hg.1 19 (by decide), hg.1 20 (by decide)]
      simp only [Int.toNat_natCast]
      refine br_i (fun qb => an_i (by omega) (by omega) (an_i (by omega) (by omega) (an_i (by omega) (by omega) ?_))) (fun qb => b65_285 ?_)
      · have x1 := hM.1 (h 18 i).toNat (h 19 i).toNat (by omega) (by omega)
        have x2 := dP_r (z := bR (h 41 8)) (m := i) (fun j hj => k2 j (by omega)) (by omega) (h 18 i).toNat (h 19 i).toNat
        refine c_addP a0 (by omega) b0 (by omega) hne (by omega) l0 l1 (fun g' f1 f2 f3 => b65_285 ?_)
        rw [e1]
        refine ih (i + 1) (by omega) g' (GFL_o hg (fun q hq => ?_) (f1 44 (by decide) (by decide)) (f1 45 (by decide) (by decide)) (f1 46 (by decide) (by decide)) (f1 47 (by decide) (by decide))) ?_
        · rw [f1 q (by omega) (by omega)]; exact hg.1 q hq
        · exact MTX_p n8 k2 (by omega) (bR_c.mpr qb) hM (f1 50 (by decide) (by decide)) f2 f3
      · rw [e1]
        exact ih (i + 1) (by omega) g hg (MTX_p0 hM (fun x => by rw [bR_c.mp x] at qb; exact qb rfl))
  have L1 : ∀ k i : Nat, i + k = (h 12 1).toNat → ∀ g, GFL h g (h 2 0).toNat G → MTX g (h 2 0).toNat i 0 (h 13) (h 14) (h 43) (h 18) (h 19) (h 20) (bR (h 41 8)) → X (d + 4) 65 155 [some (P 41), some (I i)] [] g Q := by
    intro k
    induction k with
    | zero =>
      intro i hi g hg hM
      have e12 : g 12 = h 12 := hg.1 12 (by decide)
      have ei : i = (h 12 1).toNat := by omega
      subst ei
      exact b65_155 (br_i (fun q => L2 (h 17 1).toNat 0 (by omega) g hg hM) (fun q => absurd (by rw [e12]; omega) q))
    | succ k ih =>
      intro i hi g hg hM
      have e12 : g 12 = h 12 := hg.1 12 (by decide)
      have e1 : w32 ((i : Int) + 1) = ((i + 1 : Nat) : Int) := by rw [w32_of (by omega) (by omega)]; omega
      obtain ⟨a0, a1, b0, b1, hne, l0, l1⟩ := k1 i (by omega)
      have x1 := hM.1 (h 13 i).toNat (h 14 i).toNat (by omega) (by omega)
      have x2 := dJ_r (m := i) (fun j hj => k1 j (by omega)) (by omega) (h 13 i).toNat (h 14 i).toNat
      have y1 := hM.1 (h 14 i).toNat (h 13 i).toNat (by omega) (by omega)
      have y2 := dJ_r (m := i) (fun j hj => k1 j (by omega)) (by omega) (h 14 i).toNat (h 13 i).toNat
      refine b65_155 (br_i (fun q => absurd q (by rw [e12]; omega)) (fun _ => ?_))
      rw [hg.1 13 (by decide), hg.1 14 (by decide), hg.1 43 (by decide)]
      simp only [Int.toNat_natCast]
      refine an_i (by omega) (by omega) (an_i (by omega) (by omega) (an_i (by omega) (by omega) (c_addJ a0 (by omega) b0 (by omega) hne (by omega) (by omega) l0 l1 (fun el => b65_206 ?_) (fun g' f1 f2 f3 => b65_206 ?_))))
      · rw [e1]
        exact ih (i + 1) (by omega) g hg (MTX_j0 hM el)
      · rw [e1]
        refine ih (i + 1) (by omega) g' (GFL_o hg (fun q hq => ?_) (f1 44 (by decide) (by decide)) (f1 45 (by decide) (by decide)) (f1 46 (by decide) (by decide)) (f1 47 (by decide) (by decide))) ?_
        · rw [f1 q (by omega) (by omega)]; exact hg.1 q hq
        · exact MTX_j n8 k1 (by omega) hM (f1 51 (by decide) (by decide)) f2 f3
  exact L1 (h 12 1).toNat 0 (by omega) g hg hM
theorem ex_r {h : HP} (hS : SCN h) (p : Nat) : 0 ≤ exC h p ∧ exC h p ≤ 999 := by
  obtain ⟨-, ⟨-, -, -, -, ⟨e0, e1⟩⟩, -⟩ := hS
  unfold exC
  split <;> omega
set_option maxHeartbeats 8000000 in
theorem c_heat {d : Nat} {h : HP} {Q : PV → HP → Prop} (hR : RK h) (hS : SCN h) (H : ∀ h', FS h h' → GR (h 2 0).toNat (ntC h) (h' 48) → Q (I 0) h') : ∀ k i : Nat, i + k = (h 26 2).toNat → ∀ g, GFL h g (h 2 0).toNat (fun p => (if p < (h 2 0).toNat then tkC h p else 0) + exC h p + sm (bxF (h 24) (h 42) (bR (h 41 6)) (h 41 4) p) (h 22 2).toNat + sm (htF (h 28) (h 27) (bR (h 41 7)) p) i) → (∀ p, p < 8 → g 49 p = 0) → (∀ j, j < 64 → g 50 j = 0) → (∀ j, j < 64 → g 51 j = 0) → X (d + 3) 66 75 [some (P 41), some (I i)] [] g (fun _ h' => X (d + 4) 65 153 [some (P 41), some (I (h 2 0))] [] h' Q) := by
  obtain ⟨⟨r56, r57, r58, r59, r60, r61, r62, r63, r64, r65⟩, ⟨r78, r79, r80⟩, ⟨r84, r85, r86, r87⟩, ⟨r90, r91, r92, r93, r94, r95, r96, r97⟩, ⟨r99, r101, r103, r104, r105⟩⟩ := id hR
  obtain ⟨⟨⟨sn0, sn1⟩, ⟨yr0, yr1⟩, ⟨wb0, wb1⟩, ⟨ys0, ys1⟩⟩, ⟨⟨wk0, wk1⟩, ⟨bn0, bn1⟩, ⟨fz0, fz1⟩, ⟨eo0, eo1⟩, ⟨ex0, ex1⟩⟩, ⟨s42, s43⟩⟩ := id hS
  have n8 : (h 2 0).toNat ≤ 8 := by omega
  have tkr := fun p => tk_r (co := h 5) (yr := h 41 3) p r78 sn0 sn1 r86 r80
  have bb := fun (p n : Nat) => sm_b (f := bxF (h 24) (h 42) (bR (h 41 6)) (h 41 4) p) (n := n) (a := 0) (b := 1500) (fun j _ => ⟨(bx_r p j r101 wb0 wb1).1, (bx_r p j r101 wb0 wb1).2.1⟩)
  have hb := fun (p n : Nat) => sm_b (f := htF (h 28) (h 27) (bR (h 41 7)) p) (n := n) (a := 0) (b := 999) (fun j _ => ht_r p j r105)
  have exr := ex_r hS
  intro k
  induction k with
  | zero =>
    intro i hi g hg z1 z2 z3
    have e26 : g 26 = h 26 := hg.1 26 (by decide)
    have ei : i = (h 26 2).toNat := by omega
    subst ei
    refine b66_75 (br_i (fun q => b65_153 ?_) (fun q => absurd (by rw [e26]; omega) q))
    refine c_links hR hS (fun p hp => ?_) (fun p hp => ?_) H hg (MTX_0 z1 z2 z3)
    · simp only [hp, if_true]; rfl
    · have t1 := tkr p
      have t2 := exr p
      have t3 := bb p (h 22 2).toNat
      have t4 := hb p (h 26 2).toNat
      simp only [hp, if_true]
      unfold tkC
      omega
  | succ k ih =>
    intro i hi g hg z1 z2 z3
    have e26 : g 26 = h 26 := hg.1 26 (by decide)
    have e41 : g 41 = h 41 := hg.1 41 (by decide)
    have e1 : w32 ((i : Int) + 1) = ((i + 1 : Nat) : Int) := by rw [w32_of (by omega) (by omega)]; omega
    refine b66_75 (br_i (fun q => absurd q (by rw [e26]; omega)) (fun _ => ?_))
    rw [e41, bit_c bn0 (by omega) (by omega) (by omega), hg.1 27 (by decide), hg.1 28 (by decide)]
    simp only [Int.toNat_natCast]
    have x27 := r103 i
    have x28 := r105 i
    refine br_i (fun qb => an_i (by omega) (by omega) (an_i (by omega) (by omega) (an_i (by omega) (by omega) (an_i (by omega) (by omega) (b66_138 ?_))))) (fun qb => b66_138 ?_)
    · have t1 := tkr (h 27 i).toNat
      have t2 := exr (h 27 i).toNat
      have t3 := bb (h 27 i).toNat (h 22 2).toNat
      have t4 := hb (h 27 i).toNat i
      have e45 := hg.2.2.1 (h 27 i).toNat (by omega)
      have t5 : 0 ≤ g 45 (h 27 i).toNat ∧ g 45 (h 27 i).toNat ≤ 60000 := by
        rw [e45]
        unfold tkC
        split <;> omega
      rw [e1, w32_of (x := g 45 (h 27 i).toNat + h 28 i) (by omega) (by omega)]
      refine ih (i + 1) (by omega) _ ⟨FS_u hg.1 (by decide) (by decide), by rw [up_p (by decide)]; exact hg.2.1, fun p hp => ?_, fun p hp => by rw [up_p (by decide), up_p (by decide)]; exact hg.2.2.2 p hp⟩ (by rw [up_p (by decide)]; exact z1) (by rw [up_p (by decide)]; exact z2) (by rw [up_p (by decide)]; exact z3)
      rw [up_st]
      have bi : bR (h 41 7) i = 1 := by unfold bR; rw [if_pos (by simpa using qb)]
      by_cases e : p = (h 27 i).toNat
      · subst e
        rw [st1_s, e45]
        have : htF (h 28) (h 27) (bR (h 41 7)) (h 27 i).toNat i = h 28 i := by
          unfold htF; rw [if_pos ⟨by rw [bi]; decide, by omega⟩]
        simp only [sm]
        omega
      · rw [st1_n e, hg.2.2.1 p hp]
        have : htF (h 28) (h 27) (bR (h 41 7)) p i = 0 := by
          unfold htF; rw [if_neg (by omega)]
        simp only [sm]
        omega
    · rw [e1]
      refine ih (i + 1) (by omega) g ⟨hg.1, hg.2.1, fun p hp => ?_, hg.2.2.2⟩ z1 z2 z3
      rw [hg.2.2.1 p hp]
      have : htF (h 28) (h 27) (bR (h 41 7)) p i = 0 := by
        unfold htF; rw [if_neg (fun x => x.1 (bR_c.mpr (by simpa using qb)))]
      simp only [sm]
      omega
set_option maxHeartbeats 8000000 in
theorem c_boxs {d : Nat} {h : HP} {Q : PV → HP → Prop} (hR : RK h) (hS : SCN h) (H : ∀ h', FS h h' → GR (h 2 0).toNat (ntC h) (h' 48) → Q (I 0) h') : ∀ k i : Nat, i + k = (h 22 2).toNat → ∀ g, GFL h g (h 2 0).toNat (fun p => (if p < (h 2 0).toNat then tkC h p else 0) + exC h p + sm (bxF (h 24) (h 42) (bR (h 41 6)) (h 41 4) p) i) → (∀ p, p < 8 → g 49 p = 0) → (∀ j, j < 64 → g 50 j = 0) → (∀ j, j < 64 → g 51 j = 0) → X (d + 3) 66 2 [some (P 41), some (I i)] [] g (fun _ h' => X (d + 4) 65 153 [some (P 41), some (I (h 2 0))] [] h' Q) := by
  obtain ⟨⟨r56, r57, r58, r59, r60, r61, r62, r63, r64, r65⟩, ⟨r78, r79, r80⟩, ⟨r84, r85, r86, r87⟩, ⟨r90, r91, r92, r93, r94, r95, r96, r97⟩, ⟨r99, r101, r103, r104, r105⟩⟩ := id hR
  obtain ⟨⟨⟨sn0, sn1⟩, ⟨yr0, yr1⟩, ⟨wb0, wb1⟩, ⟨ys0, ys1⟩⟩, ⟨⟨wk0, wk1⟩, ⟨bn0, bn1⟩, ⟨fz0, fz1⟩, ⟨eo0, eo1⟩, ⟨ex0, ex1⟩⟩, ⟨s42, s43⟩⟩ := id hS
  have n8 : (h 2 0).toNat ≤ 8 := by omega
  have tkr := fun p => tk_r (co := h 5) (yr := h 41 3) p r78 sn0 sn1 r86 r80
  have bb := fun (p n : Nat) => sm_b (f := bxF (h 24) (h 42) (bR (h 41 6)) (h 41 4) p) (n := n) (a := 0) (b := 1500) (fun j _ => ⟨(bx_r p j r101 wb0 wb1).1, (bx_r p j r101 wb0 wb1).2.1⟩)
  have hb := fun (p n : Nat) => sm_b (f := htF (h 28) (h 27) (bR (h 41 7)) p) (n := n) (a := 0) (b := 999) (fun j _ => ht_r p j r105)
  have exr := ex_r hS
  have L3 := c_heat (d := d) hR hS H
  intro k
  induction k with
  | zero =>
    intro i hi g hg z1 z2 z3
    have e22 : g 22 = h 22 := hg.1 22 (by decide)
    have ei : i = (h 22 2).toNat := by omega
    subst ei
    refine b66_2 (br_i (fun q => ?_) (fun q => absurd (by rw [e22]; omega) q))
    refine L3 (h 26 2).toNat 0 (by omega) g ?_ z1 z2 z3
    simp only [sm, Int.add_zero]
    exact hg
  | succ k ih =>
    intro i hi g hg z1 z2 z3
    have e22 : g 22 = h 22 := hg.1 22 (by decide)
    have e41 : g 41 = h 41 := hg.1 41 (by decide)
    have e1 : w32 ((i : Int) + 1) = ((i + 1 : Nat) : Int) := by rw [w32_of (by omega) (by omega)]; omega
    have x42 := s42 i (by omega)
    have bx := bx_r (pl := h 42) (on := bR (h 41 6)) (h 42 i).toNat i r101 wb0 wb1
    refine b66_2 (br_i (fun q => absurd q (by rw [e22]; omega)) (fun _ => ?_))
    rw [e41, bit_c wk0 (by omega) (by omega) (by omega), hg.1 42 (by decide), hg.1 24 (by decide)]
    simp only [Int.toNat_natCast]
    rw [w32_of (x := h 24 i * h 41 4) (by omega) (by omega), tdv bx.2.2.1, w32_of (x := h 24 i * h 41 4 / 100) (by omega) (by omega)]
    refine br_i (fun qb => an_i (by omega) (by omega) (an_i (by omega) (by omega) (an_i (by omega) (by omega) (an_i (by omega) (by omega) (b66_67 ?_))))) (fun qb => b66_67 ?_)
    · have t1 := tkr (h 42 i).toNat
      have t2 := exr (h 42 i).toNat
      have t3 := bb (h 42 i).toNat i
      have e45 := hg.2.2.1 (h 42 i).toNat (by omega)
      have t5 : 0 ≤ g 45 (h 42 i).toNat ∧ g 45 (h 42 i).toNat ≤ 60000 := by
        rw [e45]
        unfold tkC
        split <;> omega
      rw [e1, w32_of (x := g 45 (h 42 i).toNat + h 24 i * h 41 4 / 100) (by omega) (by omega)]
      refine ih (i + 1) (by omega) _ ⟨FS_u hg.1 (by decide) (by decide), by rw [up_p (by decide)]; exact hg.2.1, fun p hp => ?_, fun p hp => by rw [up_p (by decide), up_p (by decide)]; exact hg.2.2.2 p hp⟩ (by rw [up_p (by decide)]; exact z1) (by rw [up_p (by decide)]; exact z2) (by rw [up_p (by decide)]; exact z3)
      rw [up_st]
      have bi : bR (h 41 6) i = 1 := by unfold bR; rw [if_pos (by simpa using qb)]
      by_cases e : p = (h 42 i).toNat
      · subst e
        rw [st1_s, e45]
        have : bxF (h 24) (h 42) (bR (h 41 6)) (h 41 4) (h 42 i).toNat i = h 24 i * h 41 4 / 100 := by
          unfold bxF; rw [if_pos ⟨by rw [bi]; decide, by omega⟩]
        simp only [sm]
        omega
      · rw [st1_n e, hg.2.2.1 p hp]
        have : bxF (h 24) (h 42) (bR (h 41 6)) (h 41 4) p i = 0 := by
          unfold bxF; rw [if_neg (by omega)]
        simp only [sm]
        omega
    · rw [e1]
      refine ih (i + 1) (by omega) g ⟨hg.1, hg.2.1, fun p hp => ?_, hg.2.2.2⟩ z1 z2 z3
      rw [hg.2.2.1 p hp]
      have : bxF (h 24) (h 42) (bR (h 41 6)) (h 41 4) p i = 0 := by
        unfold bxF; rw [if_neg (fun x => x.1 (bR_c.mpr (by simpa using qb)))]
      simp only [sm]
      omega
set_option maxHeartbeats 8000000 in
theorem c_plts {d : Nat} {h : HP} {Q : PV → HP → Prop} (hR : RK h) (hS : SCN h) (H : ∀ h', FS h h' → GR (h 2 0).toNat (ntC h) (h' 48) → Q (I 0) h') : ∀ k i : Nat, i + k = (h 2 0).toNat → ∀ g, GFL h g i (fun p => if p < i then tkC h p else 0) → (∀ p, p < 8 → g 49 p = 0) → (∀ j, j < 64 → g 50 j = 0) → (∀ j, j < 64 → g 51 j = 0) → X (d + 4) 65 19 [some (P 41), some (I i)] [] (up2 g 44 1 (h 2 0)) Q := by
  obtain ⟨⟨r56, r57, r58, r59, r60, r61, r62, r63, r64, r65⟩, ⟨r78, r79, r80⟩, ⟨r84, r85, r86, r87⟩, ⟨r90, r91, r92, r93, r94, r95, r96, r97⟩, ⟨r99, r101, r103, r104, r105⟩⟩ := id hR
  obtain ⟨⟨⟨sn0, sn1⟩, ⟨yr0, yr1⟩, ⟨wb0, wb1⟩, ⟨ys0, ys1⟩⟩, ⟨⟨wk0, wk1⟩, ⟨bn0, bn1⟩, ⟨fz0, fz1⟩, ⟨eo0, eo1⟩, ⟨ex0, ex1⟩⟩, ⟨s42, s43⟩⟩ := id hS
  have n8 : (h 2 0).toNat ≤ 8 := by omega
  have tkr := fun p => tk_r (co := h 5) (yr := h 41 3) p r78 sn0 sn1 r86 r80
  have bb := fun (p n : Nat) => sm_b (f := bxF (h 24) (h 42) (bR (h 41 6)) (h 41 4) p) (n := n) (a := 0) (b := 1500) (fun j _ => ⟨(bx_r p j r101 wb0 wb1).1, (bx_r p j r101 wb0 wb1).2.1⟩)
  have hb := fun (p n : Nat) => sm_b (f := htF (h 28) (h 27) (bR (h 41 7)) p) (n := n) (a := 0) (b := 999) (fun j _ => ht_r p j r105)
  have exr := ex_r hS
  have L2 := c_boxs (d := d) hR hS H
  intro k
  induction k with
  | zero =>
    intro i hi g hg z1 z2 z3
    have e2 : up2 g 44 1 (h 2 0) 2 = h 2 := by rw [up_p (by decide)]; exact hg.1 2 (by decide)
    have e41 : up2 g 44 1 (h 2 0) 41 = h 41 := by rw [up_p (by decide)]; exact hg.1 41 (by decide)
    have e5 : up2 g 44 1 (h 2 0) 45 = g 45 := up_p (by decide)
    have ei : i = (h 2 0).toNat := by omega
    subst ei
    refine b65_19 (br_i (fun q => ?_) (fun q => absurd (by rw [e2]; omega) q))
    rw [e41, e5]
    have t1 := tkr (h 41 10).toNat
    have e45 := hg.2.2.1 (h 41 10).toNat (by omega)
    have t5 : 0 ≤ g 45 (h 41 10).toNat ∧ g 45 (h 41 10).toNat ≤ 60000 := by
      rw [e45]
      unfold tkC
      split <;> omega
    rw [w32_of (x := g 45 (h 41 10).toNat + h 41 11) (by omega) (by omega)]
    refine an_i (by omega) (by omega) (an_i (by omega) (by omega) (b66_0 ?_))
    have e20 : (((h 2 0).toNat : Nat) : Int) = h 2 0 := by omega
    rw [e20]
    refine L2 (h 22 2).toNat 0 (by omega) _ ⟨FS_u (FS_u hg.1 (by decide) (by decide)) (by decide) (by decide), ?_, fun p hp => ?_, fun p hp => ?_⟩ ?_ ?_ ?_
    · rw [up_p (by decide), up_s]; omega
    · rw [up_st, e5]
      simp only [sm, Int.add_zero]
      unfold exC
      by_cases e : p = (h 41 10).toNat
      · subst e
        rw [st1_s, e45, if_pos (by omega)]
      · rw [st1_n e, hg.2.2.1 p hp, if_neg (by omega)]; omega
    · rw [up_p (by decide), up_p (by decide), up_p (by decide), up_p (by decide)]; exact hg.2.2.2 p hp
    · rw [up_p (by decide), up_p (by decide)]; exact z1
    · rw [up_p (by decide), up_p (by decide)]; exact z2
    · rw [up_p (by decide), up_p (by decide)]; exact z3
  | succ k ih =>
    intro i hi g hg z1 z2 z3
    have e2 : up2 g 44 1 (h 2 0) 2 = h 2 := by rw [up_p (by decide)]; exact hg.1 2 (by decide)
    have e41 : up2 g 44 1 (h 2 0) 41 = h 41 := by rw [up_p (by decide)]; exact hg.1 41 (by decide)
    have eq := fun q (hq : q < 44) => (show up2 g 44 1 (h 2 0) q = h q by rw [up_p (by omega)]; exact hg.1 q (by omega))
    have e1 : w32 ((i : Int) + 1) = ((i + 1 : Nat) : Int) := by rw [w32_of (by omega) (by omega)]; omega
    have sb := sb_r (co := h 5) (yr := h 41 3) i r87 ys0 ys1
    refine b65_19 (br_i (fun q => absurd q (by rw [e2]; omega)) (fun _ => ?_))
    rw [e41]
    refine c_taken (by omega) (by omega) sn0 sn1 yr0 yr1 (by rw [eq 4 (by decide)]; exact r78) (by rw [eq 5 (by decide)]; exact r79) (by rw [eq 6 (by decide)]; exact r80) (by rw [eq 32 (by decide)]; exact r86) (b65_57 (an_i (by omega) (by omega) ?_))
    rw [eq 4 (by decide), eq 5 (by decide), eq 32 (by decide), eq 6 (by decide), e41]
    simp only [Int.toNat_natCast]
    refine c_sendsOf (by omega) (by omega) yr0 yr1 (by rw [up_p (by decide), eq 5 (by decide)]; exact r79) (b65_80 ?_)
    rw [up_p (by decide), up_p (by decide), up_p (by decide), eq 33 (by decide), eq 5 (by decide), e41]
    simp only [Int.toNat_natCast]
    rw [w32_of (x := h 33 (h 5 i * 10 + h 41 3).toNat * h 41 5) (by omega) (by omega), tdv sb.2.2.1, w32_of (x := h 33 (h 5 i * 10 + h 41 3).toNat * h 41 5 / 100) (by omega) (by omega)]
    have K : ∀ y : Int, y = sbF (h 33) (h 5) (h 41 3) (h 41 5) i → X (d + 4) 65 91 [some (P 41), some (I i)] [I y, I i, P 46] (up2 (up2 g 44 1 (h 2 0)) 45 i (tkF (h 4) (h 5) (h 32) (h 6) (h 41 2) (h 41 3) i)) Q := by
      intro y hy
      subst hy
      have D : ∀ x : Int, x = drC h i → X (d + 4) 65 123 [some (P 41), some (I i)] [I x, I i, P 47] (up2 (up2 (up2 g 44 1 (h 2 0)) 45 i (tkF (h 4) (h 5) (h 32) (h 6) (h 41 2) (h 41 3) i)) 46 i (sbF (h 33) (h 5) (h 41 3) (h 41 5) i)) Q := by
        intro x hx
        subst hx
        refine b65_123 (an_i (by omega) (by omega) ?_)
        rw [e1]
        simp only [Int.toNat_natCast]
        have ec : up2 (up2 (up2 (up2 g 44 1 (h 2 0)) 45 i (tkF (h 4) (h 5) (h 32) (h 6) (h 41 2) (h 41 3) i)) 46 i (sbF (h 33) (h 5) (h 41 3) (h 41 5) i)) 47 i (drC h i) = up2 (up2 (up2 (up2 (up2 g 44 1 ((i + 1 : Nat) : Int)) 45 i (tkF (h 4) (h 5) (h 32) (h 6) (h 41 2) (h 41 3) i)) 46 i (sbF (h 33) (h 5) (h 41 3) (h 41 5) i)) 47 i (drC h i)) 44 1 (h 2 0) := by
          funext q j
          simp only [up2]
          by_cases c : q = 44 ∧ j = 1
          · obtain ⟨c1, c2⟩ := c
            subst c1 c2
            simp
          · simp only [c, if_false]
        rw [ec]
        refine ih (i + 1) (by omega) _ ⟨FS_u (FS_u (FS_u (FS_u hg.1 (by decide) (by decide)) (by decide) (by decide)) (by decide) (by decide)) (by decide) (by decide), ?_, fun p hp => ?_, fun p hp => ?_⟩ ?_ ?_ ?_
        · rw [up_p (by decide), up_p (by decide), up_p (by decide), up_s]
        · rw [up_p (by decide), up_p (by decide), up_st, up_p (by decide)]
          by_cases e : p = i
          · subst e
            rw [st1_s, if_pos (by omega)]; rfl
          · rw [st1_n e, hg.2.2.1 p hp]
            by_cases e3 : p < i
            · rw [if_pos e3, if_pos (by omega)]
            · rw [if_neg e3, if_neg (by omega)]
        · rw [up_st, up_p (p := 47) (q := 46) (by decide), up_st, up_p (by decide), up_p (by decide), up_p (by decide), up_p (by decide), up_p (by decide)]
          by_cases e : p = i
          · subst e
            exact ⟨st1_s, st1_s⟩
          · rw [st1_n e, st1_n e]; exact hg.2.2.2 p (by omega)
        · rw [up_p (by decide), up_p (by decide), up_p (by decide), up_p (by decide)]; exact z1
        · rw [up_p (by decide), up_p (by decide), up_p (by decide), up_p (by decide)]; exact z2
        · rw [up_p (by decide), up_p (by decide), up_p (by decide), up_p (by decide)]; exact z3
      refine b65_91 (an_i (by omega) (by omega) ?_)
      rw [up_p (by decide), up_p (by decide), e41, eq 9 (by decide)]
      simp only [Int.toNat_natCast]
      refine br_i (fun qo => an_i (by omega) (by omega) (D _ ?_)) (fun qo => D _ ?_)
      · unfold drC; rw [if_pos qo]
      · unfold drC; rw [if_neg qo]
    refine z225 (br_i (fun qm => K _ ?_) (fun qm => K _ ?_))
    · unfold sbF; rw [if_pos (by omega)]
    · unfold sbF
      split <;> omega
set_option maxHeartbeats 8000000 in
theorem c_settle {d : Nat} {h : HP} {Q : PV → HP → Prop} (hR : RK h) (hS : SCN h) (H : ∀ h', FS h h' → GR (h 2 0).toNat (ntC h) (h' 48) → Q (I 0) h') : X (d + 4) 65 0 [some (P 41), none] [] h Q := by
  have r56 := hR.1.1
  have L1 := c_plts (d := d) hR hS H
  refine b65_0 (b70_0 (c_fill49 (b70_13 (c_fill45 (b70_21 (c_fill50 (b70_29 (c_fill51 (b70_37 (b65_17 ?_))))))))))
  generalize hgg : setr (setr (setr (setr (up2 h 44 1 (h 2 0)) 49 (fun j => if j < 8 then 0 else up2 h 44 1 (h 2 0) 49 j)) 45 (fun j => if j < 8 then 0 else setr (up2 h 44 1 (h 2 0)) 49 (fun j => if j < 8 then 0 else up2 h 44 1 (h 2 0) 49 j) 45 j)) 50 (fun j => if j < 64 then 0 else setr (setr (up2 h 44 1 (h 2 0)) 49 (fun j => if j < 8 then 0 else up2 h 44 1 (h 2 0) 49 j)) 45 (fun j => if j < 8 then 0 else setr (up2 h 44 1 (h 2 0)) 49 (fun j => if j < 8 then 0 else up2 h 44 1 (h 2 0) 49 j) 45 j) 50 j)) 51 (fun j => if j < 64 then 0 else setr (setr (setr (up2 h 44 1 (h 2 0)) 49 (fun j => if j < 8 then 0 else up2 h 44 1 (h 2 0) 49 j)) 45 (fun j => if j < 8 then 0 else setr (up2 h 44 1 (h 2 0)) 49 (fun j => if j < 8 then 0 else up2 h 44 1 (h 2 0) 49 j) 45 j)) 50 (fun j => if j < 64 then 0 else setr (setr (up2 h 44 1 (h 2 0)) 49 (fun j => if j < 8 then 0 else up2 h 44 1 (h 2 0) 49 j)) 45 (fun j => if j < 8 then 0 else setr (up2 h 44 1 (h 2 0)) 49 (fun j => if j < 8 then 0 else up2 h 44 1 (h 2 0) 49 j) 45 j) 50 j) 51 j) = gg
  have fg : FS h gg := by rw [← hgg]; exact FS_s (FS_s (FS_s (FS_s (FS_u (FS_r h) (by decide) (by decide)) (by decide) (by decide)) (by decide) (by decide)) (by decide) (by decide)) (by decide) (by decide)
  have q44 : gg 44 1 = h 2 0 := by rw [← hgg, setr_p (by decide), setr_p (by decide), setr_p (by decide), setr_p (by decide), up_s]
  have q49 : ∀ p, p < 8 → gg 49 p = 0 := fun p hp => by rw [← hgg, setr_p (by decide), setr_p (by decide), setr_p (by decide), setr_s]; simp [hp]
  have q45 : ∀ p, p < 8 → gg 45 p = 0 := fun p hp => by rw [← hgg, setr_p (by decide), setr_p (by decide), setr_s]; simp [hp]
  have q50 : ∀ p, p < 64 → gg 50 p = 0 := fun p hp => by rw [← hgg, setr_p (by decide), setr_s]; simp [hp]
  have q51 : ∀ p, p < 64 → gg 51 p = 0 := fun p hp => by rw [← hgg, setr_s]; simp [hp]
  have eg : gg = up2 (up2 gg 44 1 0) 44 1 (h 2 0) := by
    funext q j
    simp only [up2]
    by_cases c : q = 44 ∧ j = 1
    · obtain ⟨c1, c2⟩ := c
      subst c1 c2
      simp [q44]
    · simp only [c, if_false]
  rw [eg]
  refine L1 (h 2 0).toNat 0 (by omega) _ ⟨FS_u fg (by decide) (by decide), by rw [up_s]; rfl, fun p hp => ?_, fun p hp => absurd hp (by omega)⟩ ?_ ?_ ?_
  · rw [up_p (by decide), q45 p hp]; simp
  · rw [up_p (by decide)]; exact q49
  · rw [up_p (by decide)]; exact q50
  · rw [up_p (by decide)]; exact q51
theorem c_warmth {d : Nat} {h : HP} {Q : PV → HP → Prop} {p : Int} (hR : RK h) (hS : SCN h) (p0 : 0 ≤ p) (p8 : p < 8) (H : ∀ h', FS h h' → GR (h 2 0).toNat (ntC h) (h' 48) → Q (I (h' 48 p.toNat)) h') : X (d + 5) 62 0 [some (P 41), some (I p)] [] h Q :=
  b62_0 (c_settle hR hS (fun h' hf hg => b62_4 (an_i p0 p8 (H h' hf hg))))
