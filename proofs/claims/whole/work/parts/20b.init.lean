/-! behind the constructors wOK and R hold -/
theorem GRb_0 : GRb = GR0 := by decide +kernel
theorem wOK_b : wOK (SHb, deng GRb) := by
  refine ⟨rfl, fun p k _ _ => ?_⟩
  show (GRb.getD p []).getD k 0 = (GR0.getD p []).getD k 0
  rw [GRb_0]
theorem row_b {p q : Nat} (H : HRb.getD p [] = HRb.getD q []) : den HRb p = den HRb q := by
  funext j; unfold den; rw [H]
theorem rgA_b {p : Nat} {a b : Int} (H : (HRb.getD p []).all (fun x => decide (a ≤ x ∧ x ≤ b)) = true) (h0 : a ≤ 0 ∧ 0 ≤ b) : rgA (den HRb p) a b := by
  intro j
  unfold den
  generalize HRb.getD p [] = l at H
  rw [List.getD_eq_getElem?_getD]
  cases e : l[j]? with
  | none => exact h0
  | some x =>
    have := List.all_eq_true.mp H x (List.mem_of_getElem? e)
    simpa using this
theorem zer_b {p : Nat} (H : (HRb.getD p []).all (fun x => decide (x = 0)) = true) (j : Nat) : den HRb p j = 0 := by
  unfold den
  generalize HRb.getD p [] = l at H
  rw [List.getD_eq_getElem?_getD]
  cases e : l[j]? with
  | none => rfl
  | some x =>
    have := List.all_eq_true.mp H x (List.mem_of_getElem? e)
    simpa using this
theorem c0_b : den HRb 2 0 = 0 ∧ den HRb 12 1 = 0 ∧ den HRb 17 1 = 0 ∧ den HRb 22 2 = 0 ∧ den HRb 26 2 = 0 ∧ den HRb 61 0 = 0 ∧ den HRb 57 2 = 0 := by decide +kernel
set_option maxRecDepth 20000 in
theorem R_b : R (den HRb) := by
  obtain ⟨c1, c2, c3, c4, c5, c6, c7⟩ := c0_b
  unfold R
  refine ⟨⟨?_, ?_, ?_, ?_, ?_, ?_, ?_, ?_⟩, ⟨?_, ?_, ?_, ?_, ?_⟩, ⟨?_, ?_, ?_, ?_, ?_, ?_, ?_⟩, ⟨?_, ?_, ?_, ?_, ?_, ?_⟩, ⟨?_, ?_, ?_, ?_, ?_⟩, ⟨?_, ?_⟩, ?_, ?_, ?_, ?_, ?_, ⟨?_, ?_, ?_, ?_, ?_, ?_, ?_, ?_⟩, ⟨?_, ?_, ?_, ?_, ?_, ?_⟩, ⟨?_, ?_, ?_, ?_, ?_, ?_, ?_, ?_, ?_⟩, ⟨?_, ?_, ?_, ?_, ?_, ?_, ?_, ?_⟩, ⟨?_, ?_, ?_, ?_, ?_, ?_, ?_⟩, ⟨?_, ?_, ?_, ?_, ?_, ?_, ?_, ?_, ?_, ?_⟩⟩
  case refine_34 => decide +kernel
  case refine_35 => decide +kernel
  case refine_36 => decide +kernel
  case refine_37 => decide +kernel
  case refine_38 => decide +kernel
  all_goals first
    | exact row_b (by decide +kernel)
    | exact rgA_b (by decide +kernel) (by decide)
    | exact rgA_b (by decide +kernel) (by decide +kernel)
    | exact (fun j hj => by omega)
    | (intro j hj; rw [c1] at hj; omega)
    | (intro j hj; rw [c2] at hj; omega)
    | (intro j hj; rw [c3] at hj; omega)
    | (intro j hj; rw [c4] at hj; omega)
    | (intro j hj; rw [c5] at hj; omega)
    | (intro j hj; rw [c6] at hj; omega)
    | (intro j hj; rw [c7] at hj; omega)
    | (intro j; right; rw [zer_b (p := 8) (by decide +kernel), zer_b (p := 9) (by decide +kernel), zer_b (p := 76) (by decide +kernel)]; decide)
    | exact (by decide +kernel : ∀ j : Nat, j < 6 → den HRb 31 j ≤ den HRb 31 (j + 1))
    | exact (fun j _ => zer_b (p := 29) (by decide +kernel) j)
    | exact (fun p hp h4 => absurd h4 (by rw [zer_b (p := 40) (by decide +kernel)]; decide))
    | exact (fun t ht => Or.inl ((by decide +kernel : ∀ t : Nat, t < 12 → den HRb 40 t = 0 ∧ den HRb 104 t = -9) t ht))
    | decide +kernel
