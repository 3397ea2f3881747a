/-! pairs: class and model answer alike, and R holds behind them: what they share -/
theorem br_i {c A B : Prop} (h1 : c → A) (h2 : ¬ c → B) : (c → A) ∧ (¬ c → B) := ⟨h1, h2⟩
theorem an_i {a b c : Prop} (h1 : a) (h2 : b) (h3 : c) : (a ∧ b) ∧ c := ⟨⟨h1, h2⟩, h3⟩
theorem up_f {h : HP} {p i : Nat} {v : Int} : up2 h p i v p = fun j => if j = i then v else h p j := by funext j; simp [up2]
theorem rgA_f {f : Nat → Int} {i : Nat} {v a b : Int} (H : rgA f a b) (h1 : a ≤ v) (h2 : v ≤ b) : rgA (fun j => if j = i then v else f j) a b := by
  intro j
  by_cases hj : j = i
  · simp [hj]; exact ⟨h1, h2⟩
  · simp [hj]; exact H j
theorem row_e {f g : Nat → Int} {i : Nat} {v : Int} (e : f = g) : (fun j => if j = i then v else f j) = (fun j => if j = i then v else g j) := by rw [e]
theorem ne_i {a b : Int} {c : Prop} (h1 : ¬ a = b) (h2 : c) : ¬ a = b ∧ c := ⟨h1, h2⟩
theorem or_i {a b c d : Int} {e : Prop} (h1 : a = b ∨ c = d) (h2 : e) : (a = b ∨ c = d) ∧ e := ⟨h1, h2⟩
theorem sw_i {c A B : Prop} (h1 : c → A) (h2 : B) : (c → A) ∧ B := ⟨h1, h2⟩
theorem im_i {a b : Int} {A : Prop} (h : a = b → A) : a = b → A := h
theorem EQA_s {h : HP} {a b : PV} (hR : R h) (e : a = b) : EQA a b h := ⟨e, hR⟩
theorem EQA_refJ {h : HP} (hR : R h) (k : Nat) (a : Int) : EQA (J a) (J a) (up2 (up2 h 68 k (w32 ((h 68 k) + 1))) 97 k (w32 ((h 97 k) + 1))) := ⟨rfl, R_ref hR k⟩
theorem rgN_f {f : Nat → Int} {i : Nat} {n n' v a b : Int} (H : rgN f n a b) (h1 : a ≤ v) (h2 : v ≤ b) (hn : n' ≤ n + 1) (hi : (i : Int) = n) : rgN (fun j => if j = i then v else f j) n' a b := by
  intro j hj
  by_cases e : j = i
  · simp [e]; exact ⟨h1, h2⟩
  · simp [e]; exact H j (by omega)
theorem ends_m {a b : Nat → Int} {n p q : Int} (H : ends a b n p) (h : p ≤ q) : ends a b n q := fun j hj => by
  obtain ⟨h1, h2, h3⟩ := H j hj
  exact ⟨by omega, by omega, h3⟩
theorem below_m {a : Nat → Int} {n p q : Int} (H : below a n p) (h : p ≤ q) : below a n q := fun j hj => by
  have := H j hj
  omega
theorem ends_f {a b : Nat → Int} {i : Nat} {n n' p u v : Int} (H : ends a b n p) (hn : n' ≤ n + 1) (hi : (i : Int) = n) (hu : u < p) (hv : v < p) (hne : u ≠ v) : ends (fun j => if j = i then u else a j) (fun j => if j = i then v else b j) n' p := by
  intro j hj
  by_cases e : j = i
  · simp [e]; exact ⟨hu, hv, hne⟩
  · simp [e]; exact H j (by omega)
theorem below_f {a : Nat → Int} {i : Nat} {n n' p u : Int} (H : below a n p) (hn : n' ≤ n + 1) (hi : (i : Int) = n) (hu : u < p) : below (fun j => if j = i then u else a j) n' p := by
  intro j hj
  by_cases e : j = i
  · simp [e]; exact hu
  · simp [e]; exact H j (by omega)
theorem w32_s {x : Int} (h0 : 0 ≤ x) (h1 : x ≤ 1000000) : w32 (x + 1) = x + 1 := w32_of (by omega) (by omega)
theorem actR_m {k n n' : Int} {w b a s o x y : Nat → Int} (H : actR k n w b a s o x y) (h : n ≤ n') : actR k n' w b a s o x y := fun j hj => by
  rcases H j hj with q | q | q | ⟨z, q1, q2, q3, q⟩ | q
  · exact Or.inl q
  · exact Or.inr (Or.inl q)
  · exact Or.inr (Or.inr (Or.inl q))
  · exact Or.inr (Or.inr (Or.inr (Or.inl ⟨z, q1, q2, by omega, q⟩)))
  · exact Or.inr (Or.inr (Or.inr (Or.inr q)))
theorem ownT_m {s f : Nat → Int} {n n' : Int} (H : ownT s f n) (h : n ≤ n') : ownT s f n' := fun p hp h4 => by
  have := H p hp h4
  omega
theorem ownT_f {s f : Nat → Int} {i : Nat} {n v : Int} (H : ownT s f n) (h : 0 ≤ v) : ownT s (fun j => if j = i then v else f j) n := fun p hp h4 => by
  have := H p hp h4
  by_cases e : p = i
  · simp [e]; omega
  · simp [e]; exact this
theorem ownT_n {s f : Nat → Int} {i : Nat} {n n' v : Int} (H : ownT s f n) (hi : (i : Int) = n) (h : n ≤ n') : ownT s (fun j => if j = i then v else f j) n' := fun p hp h4 => by
  have := H p hp h4
  have e : ¬ p = i := by omega
  simp [e]; omega
