/-! what holds of both systems' cells between calls -/
theorem up_p {h : HP} {p i q : Nat} {v : Int} (hq : q ≠ p) : up2 h p i v q = h q := by funext j; simp [up2, hq]
theorem up_i {h : HP} {p i q j : Nat} {v : Int} (hj : j ≠ i) : up2 h p i v q j = h q j := by simp [up2, hj]
theorem up_s {h : HP} {p i : Nat} {v : Int} : up2 h p i v p i = v := by simp [up2]
/-- the same change in two rows that are alike -/
theorem up_2 {h : HP} {p q i : Nat} {v : Int} (hpq : p ≠ q) (he : h p = h q) : up2 (up2 h p i v) q i v p = up2 (up2 h p i v) q i v q := by
  funext j
  simp only [up2]
  by_cases hj : j = i
  · simp [hj, hpq]
  · simp [hj, he]
def rgA (f : Nat → Int) (a b : Int) : Prop := ∀ j, a ≤ f j ∧ f j ≤ b
/-- the first n of a row -/
def rgN (f : Nat → Int) (n a b : Int) : Prop := ∀ j : Nat, (j : Int) < n → a ≤ f j ∧ f j ≤ b
def rise (f : Nat → Int) : Prop := ∀ j : Nat, j < 6 → f j ≤ f (j + 1)
def flp (f w u : Nat → Int) : Prop := ∀ j, (f j = -9 ∧ w j = 2) ∨ ((0 ≤ f j ∧ f j ≤ 3) ∧ (0 ≤ w j ∧ w j ≤ 2) ∧ (f j ≤ 2 → w j = f j) ∧ u j = w j)
/-- two ends of a link: plates, not the same -/
def ends (a b : Nat → Int) (n pl : Int) : Prop := ∀ j : Nat, (j : Int) < n → a j < pl ∧ b j < pl ∧ a j ≠ b j
def below (a : Nat → Int) (n pl : Int) : Prop := ∀ j : Nat, (j : Int) < n → a j < pl
/-- acts: class's what, before, after; model's sort, of, was, is -/
def actE (w b a s o x y n : Int) : Prop :=
  (∃ k, 0 ≤ k ∧ k ≤ 7 ∧ w = 64 + k ∧ s = 0 ∧ o = k ∧ b = x ∧ a = y ∧ 0 ≤ x ∧ x ≤ 2 ∧ 0 ≤ y ∧ y ≤ 2) ∨
  (∃ k, 0 ≤ k ∧ k ≤ 7 ∧ w = 48 + k ∧ s = 1 ∧ o = k ∧ b = x ∧ a = y ∧ 0 ≤ x ∧ x ≤ 1 ∧ 0 ≤ y ∧ y ≤ 1) ∨
  (∃ k, 0 ≤ k ∧ k ≤ 7 ∧ w = k ∧ s = 2 ∧ o = k ∧ b = x ∧ a = y ∧ 0 ≤ x ∧ x ≤ 1 ∧ 0 ≤ y ∧ y ≤ 1) ∨
  (∃ k, 0 ≤ k ∧ k ≤ 3 ∧ k < n ∧ w = 16 + k ∧ s = 3 ∧ o = k ∧ b = x ∧ a = y ∧ 0 ≤ x ∧ x ≤ 3 ∧ 0 ≤ y ∧ y ≤ 3) ∨
  (∃ k f g f2 g2, 0 ≤ k ∧ k ≤ 7 ∧ w = 32 + k ∧ s = 4 ∧ o = k ∧ (0 ≤ f ∧ f ≤ 3 ∧ 0 ≤ g ∧ g ≤ 2 ∧ (f ≤ 2 → g = f)) ∧ (0 ≤ f2 ∧ f2 ≤ 3 ∧ 0 ≤ g2 ∧ g2 ≤ 2 ∧ (f2 ≤ 2 → g2 = f2)) ∧ b = f + 4 * g ∧ x = 10 * g + f ∧ a = f2 + 4 * g2 ∧ y = 10 * g2 + f2)
def actR (kept n : Int) (w b a s o x y : Nat → Int) : Prop := ∀ j : Nat, (j : Int) < kept → actE (w j) (b j) (a j) (s j) (o j) (x j) (y j) n
/-- the texts as steps, and as they came -/
def txR (steps sizes text many : Nat → Int) : Prop := ∀ t : Nat, t < 12 → (sizes t = 0 ∧ many t = -9) ∨ ∃ n : Nat, many t = n ∧ n ≤ 40 ∧ (pRow text t n).1 = true ∧ sizes t = (pRow text t n).2.2.1.length ∧ 0 < (pRow text t n).2.2.1.length ∧ ∀ j, j < (pRow text t n).2.2.1.length → steps (40 * t + j) = (pRow text t n).2.2.1.getD j 0
def zeroT (f : Nat → Int) (n : Int) : Prop := ∀ j : Nat, n ≤ (j : Int) → f j = 0
/-- a rule of a flap is of a flap that is there -/
def ownT (s f : Nat → Int) (n : Int) : Prop := ∀ p : Nat, p < 8 → 0 < s (4 + p) → (p : Int) < n ∧ 0 ≤ f p
def R (h : HP) : Prop :=
  (h 3 = h 70 ∧ h 4 = h 71 ∧ h 5 = h 72 ∧ h 7 = h 73 ∧ h 6 = h 74 ∧ h 8 = h 75 ∧ h 10 = h 77 ∧ h 11 = h 78) ∧
  (h 31 = h 79 ∧ h 32 = h 80 ∧ h 33 = h 81 ∧ h 34 = h 82 ∧ h 35 = h 96) ∧
  (h 13 = h 83 ∧ h 14 = h 84 ∧ h 15 = h 85 ∧ h 18 = h 86 ∧ h 19 = h 87 ∧ h 20 = h 88 ∧ h 21 = h 89) ∧
  (h 23 = h 90 ∧ h 24 = h 91 ∧ h 25 = h 92 ∧ h 27 = h 93 ∧ h 28 = h 94 ∧ h 29 = h 95) ∧
  (h 62 = h 115 ∧ h 63 = h 116 ∧ h 64 = h 117 ∧ h 65 = h 118 ∧ h 66 = h 119) ∧ (h 68 = h 97 ∧ h 37 = h 102) ∧
  (h 2 0 = h 69 9 ∧ h 12 1 = h 69 17 ∧ h 17 1 = h 69 22 ∧ h 22 2 = h 69 26 ∧ h 26 2 = h 69 30 ∧ h 30 5 = h 69 31 ∧ h 0 8 = h 69 32 ∧ h 30 6 = h 69 37 ∧ h 57 1 = h 69 44 ∧ h 57 2 = h 69 43 ∧ h 36 1 = h 69 46 ∧ h 61 0 = h 69 83) ∧
  (h 67 0 = h 69 33 ∧ h 67 1 = h 69 34 ∧ h 67 2 = h 69 35) ∧
  (h 12 0 = 20 ∧ h 17 0 = 8 ∧ h 22 0 = 8 ∧ h 22 1 = 1 ∧ h 26 0 = 4 ∧ h 26 1 = 0 ∧ h 69 70 = -9) ∧
  (0 ≤ h 2 0 ∧ h 2 0 ≤ 8 ∧ 0 ≤ h 12 1 ∧ h 12 1 ≤ 20 ∧ 0 ≤ h 17 1 ∧ h 17 1 ≤ 8 ∧ 0 ≤ h 22 2 ∧ h 22 2 ≤ 8 ∧ 0 ≤ h 26 2 ∧ h 26 2 ≤ 4) ∧
  (0 ≤ h 30 5 ∧ h 30 5 ≤ 9 ∧ 0 ≤ h 0 8 ∧ h 0 8 ≤ 9999 ∧ 0 ≤ h 30 6 ∧ h 30 6 ≤ 600 ∧ 0 ≤ h 36 1 ∧ h 36 1 ≤ 40 ∧ 0 ≤ h 61 0 ∧ h 61 0 ≤ 10) ∧
  (rgN (h 3) (h 2 0) 1 99 ∧ rgA (h 3) 0 99 ∧ rgA (h 4) 0 20 ∧ rgA (h 5) 0 3 ∧ rgA (h 6) 0 2 ∧ flp (h 8) (h 9) (h 76) ∧ rgA (h 10) 0 600 ∧ rgA (h 11) 0 600) ∧
  (rgA (h 31) 0 9999 ∧ rise (h 31) ∧ rgA (h 32) 0 100 ∧ rgA (h 33) 0 100 ∧ rgA (h 34) 0 999 ∧ rgA (h 35) 0 50) ∧
  (rgA (h 13) 0 7 ∧ rgA (h 14) 0 7 ∧ rgA (h 15) 0 99 ∧ ends (h 13) (h 14) (h 12 1) (h 2 0) ∧ rgA (h 18) 0 7 ∧ rgA (h 19) 0 7 ∧ rgA (h 20) 0 99 ∧ ends (h 18) (h 19) (h 17 1) (h 2 0) ∧ rgA (h 21) 0 1) ∧
  (rgA (h 23) 0 7 ∧ below (h 23) (h 22 2) (h 2 0) ∧ rgA (h 24) 0 999 ∧ rgA (h 25) 0 1 ∧ rgA (h 27) 0 7 ∧ below (h 27) (h 26 2) (h 2 0) ∧ rgA (h 28) 0 999 ∧ rgA (h 29) 0 3) ∧
  (rgA (h 62) 0 7 ∧ below (h 62) (h 61 0) (h 2 0) ∧ rgA (h 63) 0 999 ∧ rgA (h 64) 0 7 ∧ below (h 64) (h 61 0) (h 2 0) ∧ rgA (h 65) 0 600 ∧ rgA (h 66) 0 99) ∧
  (rgA (h 7) 0 (2000000 + 40000 * h 0 8) ∧ rgA (h 37) 0 255 ∧ 0 ≤ h 57 1 ∧ h 57 1 ≤ h 57 2 ∧ h 57 2 ≤ 60 ∧ actR (h 57 2) (h 26 2) (h 58) (h 59) (h 60) (h 98) (h 99) (h 100) (h 101) ∧ txR (h 39) (h 40) (h 103) (h 104) ∧ zeroT (h 29) (h 26 2) ∧ ownT (h 40) (h 8) (h 2 0) ∧ rgA (h 67) 0 (2000000 * h 0 8))
/-- both answered alike, and it holds again -/
def EQA (r r' : PV) (h : HP) : Prop := r = r' ∧ R h
theorem rgA_u {h : HP} {p i : Nat} {v a b : Int} (H : rgA (h p) a b) (h1 : a ≤ v) (h2 : v ≤ b) : rgA (up2 h p i v p) a b := by
  intro j
  simp only [up2]
  by_cases hj : j = i
  · simp [hj]; exact ⟨h1, h2⟩
  · simp [hj]; exact H j
theorem R_ref {h : HP} (hR : R h) (k : Nat) : R (up2 (up2 h 68 k (w32 ((h 68 k) + 1))) 97 k (w32 ((h 97 k) + 1))) := by
  have e : h 97 k = h 68 k := by rw [hR.2.2.2.2.2.1.1]
  rw [e]
  unfold R at hR ⊢
  simp only [up_p, ne_eq, Nat.reduceEqDiff, not_false_eq_true]
  refine ⟨hR.1, hR.2.1, hR.2.2.1, hR.2.2.2.1, hR.2.2.2.2.1, ⟨?_, hR.2.2.2.2.2.1.2⟩, hR.2.2.2.2.2.2⟩
  have := up_2 (h := h) (p := 68) (q := 97) (i := k) (v := w32 (h 68 k + 1)) (by decide) hR.2.2.2.2.2.1.1
  rw [up_p (by decide)] at this
  exact this
theorem EQA_ref {h : HP} (hR : R h) (k : Nat) (a : Int) : EQA (I a) (I a) (up2 (up2 h 68 k (w32 ((h 68 k) + 1))) 97 k (w32 ((h 97 k) + 1))) := ⟨rfl, R_ref hR k⟩
