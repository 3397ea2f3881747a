/-! settle, the loops -/
set_option maxHeartbeats 4000000 in
theorem c_addJ {d : Nat} {g : HP} {Q : PV → HP → Prop} {A B l : Int} (a0 : 0 ≤ A) (a8 : A < 8) (b0 : 0 ≤ B) (b8 : B < 8) (hne : A ≠ B) (x1 : 0 ≤ g 50 (A.toNat * 8 + B.toNat) ∧ g 50 (A.toNat * 8 + B.toNat) ≤ 1980) (x2 : 0 ≤ g 50 (B.toNat * 8 + A.toNat) ∧ g 50 (B.toNat * 8 + A.toNat) ≤ 1980) (l0 : 0 ≤ l) (l1 : l ≤ 99) (H0 : l = 0 → Q (I 0) g) (H1 : ∀ g', (∀ q, q ≠ 49 → q ≠ 50 → g' q = g q) → g' 50 = st1 (st1 (g 50) (A.toNat * 8 + B.toNat) (g 50 (A.toNat * 8 + B.toNat) + l)) (B.toNat * 8 + A.toNat) (st1 (g 50) (A.toNat * 8 + B.toNat) (g 50 (A.toNat * 8 + B.toNat) + l) (B.toNat * 8 + A.toNat) + l) → g' 49 = st1 (st1 (g 49) A.toNat (bOr (g 49 A.toNat) (bShl 1 (B.toNat : Int)))) B.toNat (bOr (g 49 B.toNat) (bShl 1 (A.toNat : Int))) → Q (I 0) g') : X d 71 0 [some (P 44), some (I A), some (I B), some (I l)] [] g Q := by
  obtain ⟨a, rfl⟩ := Int.eq_ofNat_of_zero_le a0
  obtain ⟨b, rfl⟩ := Int.eq_ofNat_of_zero_le b0
  simp only [Int.toNat_natCast] at *
  refine b71_0 ?_
  rw [ix8 (show a < 8 by omega) (show b < 8 by omega), ix8 (show b < 8 by omega) (show a < 8 by omega)]
  simp only [Int.toNat_natCast]
  rw [w32_of (x := g 50 (a * 8 + b) + l) (by omega) (by omega), up_i (show b * 8 + a ≠ a * 8 + b by omega), w32_of (x := g 50 (b * 8 + a) + l) (by omega) (by omega)]
  refine br_i (fun q => an_i (by omega) (by omega) (an_i (by omega) (by omega) (an_i (by omega) (by omega) (an_i (by omega) (by omega) (an_i (by omega) (by omega) (an_i (by omega) (by omega) (an_i (by omega) (by omega) (an_i (by omega) (by omega) (H1 _ ?_ ?_ ?_))))))))) (fun q => H0 (by omega))
  · intro q h1 h2
    rw [up_p h1, up_p h1, up_p h2, up_p h2]
  · rw [up_p (by decide), up_p (by decide), up_st, up_st, st1_n (show b * 8 + a ≠ a * 8 + b by omega)]
  · rw [up_st, up_st, st1_n (show b ≠ a by omega), up_p (by decide), up_p (by decide)]
set_option maxHeartbeats 4000000 in
theorem c_addP {d : Nat} {g : HP} {Q : PV → HP → Prop} {A B l : Int} (a0 : 0 ≤ A) (a8 : A < 8) (b0 : 0 ≤ B) (b8 : B < 8) (hne : A ≠ B) (x1 : 0 ≤ g 51 (A.toNat * 8 + B.toNat) ∧ g 51 (A.toNat * 8 + B.toNat) ≤ 1980) (l0 : 0 ≤ l) (l1 : l ≤ 99) (H1 : ∀ g', (∀ q, q ≠ 49 → q ≠ 51 → g' q = g q) → g' 51 = st1 (g 51) (A.toNat * 8 + B.toNat) (g 51 (A.toNat * 8 + B.toNat) + l) → g' 49 = st1 (st1 (g 49) A.toNat (bOr (g 49 A.toNat) (bShl 1 (B.toNat : Int)))) B.toNat (bOr (g 49 B.toNat) (bShl 1 (A.toNat : Int))) → Q (I 0) g') : X d 72 0 [some (P 44), some (I A), some (I B), some (I l)] [] g Q := by
  obtain ⟨a, rfl⟩ := Int.eq_ofNat_of_zero_le a0
  obtain ⟨b, rfl⟩ := Int.eq_ofNat_of_zero_le b0
  simp only [Int.toNat_natCast] at *
  refine b72_0 ?_
  rw [ix8 (show a < 8 by omega) (show b < 8 by omega)]
  simp only [Int.toNat_natCast]
  rw [w32_of (x := g 51 (a * 8 + b) + l) (by omega) (by omega)]
  refine an_i (by omega) (by omega) (an_i (by omega) (by omega) (an_i (by omega) (by omega) (an_i (by omega) (by omega) (an_i (by omega) (by omega) (an_i (by omega) (by omega) (H1 _ ?_ ?_ ?_))))))
  · intro q h1 h2
    rw [up_p h1, up_p h1, up_p h2]
  · rw [up_p (by decide), up_p (by decide), up_st]
  · rw [up_st, up_st, st1_n (show b ≠ a by omega), up_p (by decide)]
/-- what the solver needs to know of the class's rows -/
def RK (h : HP) : Prop :=
  (0 ≤ h 2 0 ∧ h 2 0 ≤ 8 ∧ 0 ≤ h 12 1 ∧ h 12 1 ≤ 20 ∧ 0 ≤ h 17 1 ∧ h 17 1 ≤ 8 ∧ 0 ≤ h 22 2 ∧ h 22 2 ≤ 8 ∧ 0 ≤ h 26 2 ∧ h 26 2 ≤ 4) ∧
  (rgA (h 4) 0 20 ∧ rgA (h 5) 0 3 ∧ rgA (h 6) 0 2) ∧
  (rgA (h 31) 0 9999 ∧ rise (h 31) ∧ rgA (h 32) 0 100 ∧ rgA (h 33) 0 100) ∧
  (rgA (h 13) 0 7 ∧ rgA (h 14) 0 7 ∧ rgA (h 15) 0 99 ∧ ends (h 13) (h 14) (h 12 1) (h 2 0) ∧ rgA (h 18) 0 7 ∧ rgA (h 19) 0 7 ∧ rgA (h 20) 0 99 ∧ ends (h 18) (h 19) (h 17 1) (h 2 0)) ∧
  (rgA (h 23) 0 7 ∧ rgA (h 24) 0 999 ∧ rgA (h 27) 0 7 ∧ below (h 27) (h 26 2) (h 2 0) ∧ rgA (h 28) 0 999)
theorem lnk_j {h : HP} (hR : RK h) (hS : SCN h) : lnk (h 2 0).toNat (h 12 1).toNat (h 13) (h 14) (h 43) := by
  obtain ⟨⟨r56, r57, r58, r59, r60, r61, r62, r63, r64, r65⟩, ⟨r78, r79, r80⟩, ⟨r84, r85, r86, r87⟩, ⟨r90, r91, r92, r93, r94, r95, r96, r97⟩, ⟨r99, r101, r103, r104, r105⟩⟩ := id hR
  intro j hj
  have x1 := r90 j
  have x2 := r91 j
  have x3 := r93 j (by omega)
  have x4 := hS.2.2.2 j (by omega)
  omega
theorem lnk_p {h : HP} (hR : RK h) : lnk (h 2 0).toNat (h 17 1).toNat (h 18) (h 19) (h 20) := by
  obtain ⟨⟨r56, r57, r58, r59, r60, r61, r62, r63, r64, r65⟩, ⟨r78, r79, r80⟩, ⟨r84, r85, r86, r87⟩, ⟨r90, r91, r92, r93, r94, r95, r96, r97⟩, ⟨r99, r101, r103, r104, r105⟩⟩ := id hR
  intro j hj
  have x1 := r94 j
  have x2 := r95 j
  have x3 := r97 j (by omega)
  have x4 := r96 j
  omega
theorem bR_c {x : Int} {k : Nat} : (bR x k = 0) ↔ bit x k = false := by
  unfold bR
  cases bit x k <;> simp
/-- rows of the solver but those of links -/
def GFL (h g : HP) (n : Nat) (G : Nat → Int) : Prop := FS h g ∧ g 44 1 = n ∧ (∀ p, p < 8 → g 45 p = G p) ∧ (∀ p, p < n → g 46 p = sbF (h 33) (h 5) (h 41 3) (h 41 5) p ∧ g 47 p = drC h p)
theorem GFL_o {h g g' : HP} {n : Nat} {G : Nat → Int} (H : GFL h g n G) (hf : FS h g') (e4 : g' 44 = g 44) (e5 : g' 45 = g 45) (e6 : g' 46 = g 46) (e7 : g' 47 = g 47) : GFL h g' n G := by
  unfold GFL at *
  rw [e4, e5, e6, e7]
  exact ⟨hf, H.2⟩
