/-! a tick of the model: warm -/
section P68
variable {d : Nat} {c k : HP} {Q : PV → HP → Prop}
set_option maxHeartbeats 4000000 in
theorem m_warm {B : Int} {hr : Nat} (hT : TKR c k B) (hB : B ≤ 2000000000) (hr1 : hr < 12) (H : ∀ g, (∀ q, q ≠ 105 → g q = k q) → (∀ p : Nat, (p : Int) < c 2 0 → g 105 p = wrm c p) → X (d + 1) 182 52 [some (P 69), some (I (hr : Int)), some (I 0), none, none, none, none] [] (up2 (up2 g 69 55 (g 82 hr)) 69 56 (hr : Int)) Q) : X (d + 1) 182 10 [some (P 69), some (I (hr : Int)), some (I 0), none, none, none, none] [] k Q := by
  obtain ⟨hO, ⟨k70, k71, k72, k73, k74, k75⟩, -, -, -, ⟨k9, -⟩, -⟩ := id hT
  obtain ⟨⟨⟨r56, r57, r58, r59, r60, r61, r62, r63, r64, r65⟩, ⟨r78, r79, r80⟩, ⟨r84, r85, r86, r87⟩, ⟨r90, r91, r92, r93, r94, r95, r96, r97⟩, ⟨r99, r101, r103, r104, r105⟩⟩, ⟨r76, r77, r114, r81, r88, r66, r67⟩, -⟩ := id hO
  have L : ∀ n i : Nat, i + n = (c 2 0).toNat → ∀ g, (∀ q, q ≠ 105 → g q = k q) → (∀ p : Nat, p < i → g 105 p = wrm c p) → X (d + 1) 182 10 [some (P 69), some (I (hr : Int)), some (I (i : Int)), none, none, none, none] [] g Q := by
    intro n
    induction n with
    | zero =>
      intro i hi g f e
      have e9 : g 69 9 = c 2 0 := by rw [f 69 (by decide)]; exact k9
      exact b182_10 (br_i (fun _ => an_i (by omega) (by omega) (H g f (fun p hp => e p (by omega)))) (fun q => absurd (by rw [e9]; omega) q))
    | succ n ih =>
      intro i hi g f e
      have e9 : g 69 9 = c 2 0 := by rw [f 69 (by decide)]; exact k9
      have x3 := r76 i (by omega)
      have x7 := r114 i
      have y := tdvB x7.1 x7.2 (show 0 ≤ c 3 i by omega)
      have N : ∀ v, v = wrm c i → X (d + 1) 182 28 [some (P 69), some (I (hr : Int)), some (I (i : Int)), none, none, none, none] [I v, I (i : Int), P 105] g Q := by
        intro v hv
        refine b182_28 (an_i (by omega) (by omega) ?_)
        rw [w32_n (by omega)]
        simp only [Int.toNat_natCast]
        refine ih (i + 1) (by omega) _ (fun q hq => by rw [up_p hq]; exact f q hq) (fun p hp => ?_)
        rw [up_st]
        by_cases ep : p = i
        · subst ep; rw [st1_s]; exact hv
        · rw [st1_n ep]; exact e p (by omega)
      refine b182_10 (br_i (fun q => absurd q (by rw [e9]; omega)) (fun _ => z175 (an_i (by omega) (by omega) (an_i (by omega) (by omega) ?_))))
      rw [f 70 (by decide), f 73 (by decide), k70, k73]
      simp only [Int.toNat_natCast]
      rw [w32_of (by omega) (by omega)]
      refine ⟨by omega, br_i (fun q => N _ ?_) (fun q => N _ ?_)⟩
      · unfold wrm; split <;> omega
      · unfold wrm; rw [if_neg (by omega)]
  exact L (c 2 0).toNat 0 (by omega) k (fun _ _ => rfl) (fun p hp => absurd hp (by omega))
end P68
