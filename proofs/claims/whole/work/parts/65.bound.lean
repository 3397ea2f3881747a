/-! how heats grow in a pass -/
section P65
variable {h : HP}
theorem tkT_r2 {B : Int} (hO : OKC h B) (hr p : Nat) : tkT h hr p ≤ 19980 := by
  obtain ⟨⟨⟨r56, r57, r58, r59, r60, r61, r62, r63, r64, r65⟩, ⟨r78, r79, r80⟩, ⟨r84, r85, r86, r87⟩, ⟨r90, r91, r92, r93, r94, r95, r96, r97⟩, ⟨r99, r101, r103, r104, r105⟩⟩, ⟨r76, r77, r114, r81, r88, r66, r67⟩, -⟩ := id hO
  have m1 := mul_rg (r78 p).1 (r78 p).2 (r88 hr).1 (r88 hr).2
  have m2 := mul_rg m1.1 m1.2 (r86 (h 5 p * 10 + h 30 5).toNat).1 (r86 (h 5 p * 10 + h 30 5).toNat).2
  have m3 := mul_rg m2.1 m2.2 (r80 p).1 (r80 p).2
  unfold tkT tkF
  omega
theorem ledJ_6 {n m : Nat} {a b l w : Nat → Int} {p j : Nat} (hl : lnk n m a b l) (hj : j < m) (hW : ∀ q, 0 ≤ w q ∧ w q ≤ 600) (hp : w p = 600) : ledJ a b l w p j ≤ 0 := by
  obtain ⟨a0, a1, b0, b1, hn, l0, l1⟩ := hl j hj
  unfold ledJ
  split
  · next e =>
    have : (b j).toNat = p := by omega
    rw [this, hp]
    have := hW (a j).toNat
    have := Int.mul_nonneg l0 (show 0 ≤ 600 - w (a j).toNat by omega)
    rw [Int.mul_sub] at *
    omega
  · split
    · next e =>
      have : (a j).toNat = p := by omega
      rw [this, hp]
      have := hW (b j).toNat
      have := Int.mul_nonneg l0 (show 0 ≤ 600 - w (b j).toNat by omega)
      omega
    · exact Int.le_refl _
theorem CHF_6 {B : Int} (hO : OKC h B) {hr p : Nat} (hp : wrm h p = 600) : CHF h hr p ≤ 40000 := by
  obtain ⟨⟨⟨r56, r57, r58, r59, r60, r61, r62, r63, r64, r65⟩, ⟨r78, r79, r80⟩, ⟨r84, r85, r86, r87⟩, ⟨r90, r91, r92, r93, r94, r95, r96, r97⟩, ⟨r99, r101, r103, r104, r105⟩⟩, -⟩ := id hO
  have t := tkT_r2 hO hr p
  have s := sdT_r hO hr p
  have x1 := sm_b (f := htF (h 24) (h 23) (h 25) p) (n := (h 22 2).toNat) (fun j _ => ht_r p j r101)
  have x2 := sm_b (f := htF (h 28) (h 27) (onH h hr) p) (n := (h 26 2).toNat) (fun j _ => ht_r p j r105)
  have x3 := sm_b (f := ledJ (h 13) (h 14) (h 15) (wrm h) p) (n := (h 12 1).toNat) (a := -59400) (b := 0) (fun j hj => ⟨(ledJ_r (lnkJ hO).1 hj (fun q _ => wrmR hO q)).1, ledJ_6 (lnkJ hO).1 hj (wrmR hO) hp⟩)
  have x4 := sm_b (f := ledP (h 18) (h 19) (h 20) (h 21) (wrm h) p) (n := (h 17 1).toNat) (a := -59400) (b := 0) (fun j hj => ⟨(ledP_r (lnkJ hO).2 hj (fun q _ => wrmR hO q)).1, by
    have := ledJ_6 (lnkJ hO).2 hj (wrmR hO) hp
    unfold ledP
    split
    · exact Int.le_refl _
    · split
      · exact this
      · exact Int.le_refl _⟩)
  unfold CHF CHG
  omega
theorem h7_grow {B : Int} (hO : OKC h B) (h2 : 2000000 ≤ B) {hr p : Nat} (hp : (p : Int) < h 2 0) : 0 ≤ mx0 (h 7 p + CHF h hr p) ∧ mx0 (h 7 p + CHF h hr p) ≤ B + 40000 := by
  obtain ⟨⟨⟨r56, r57, r58, r59, r60, r61, r62, r63, r64, r65⟩, ⟨r78, r79, r80⟩, ⟨r84, r85, r86, r87⟩, ⟨r90, r91, r92, r93, r94, r95, r96, r97⟩, ⟨r99, r101, r103, r104, r105⟩⟩, ⟨r76, r77, r114, r81, r88, r66, r67⟩, -⟩ := id hO
  have x3 := r76 p hp
  have x7 := r114 p
  refine mx0_r (by omega) ?_
  by_cases q : wrm h p = 600
  · have := CHF_6 hO (hr := hr) q
    omega
  · have cr : -1900000 ≤ CHF h hr p ∧ CHF h hr p ≤ 1800000 := CHG_r hO (by omega) (by omega) (Nat.le_refl _) (Nat.le_refl _)
    have : Int.tdiv (h 7 p) (h 3 p) < 600 := by
      apply Classical.byContradiction
      intro n
      apply q
      unfold wrm
      rw [if_neg n]
    rw [Int.tdiv_eq_ediv_of_nonneg x7.1] at this
    have y := Int.lt_mul_of_ediv_lt (show 0 < h 3 p by omega) this
    omega
end P65
