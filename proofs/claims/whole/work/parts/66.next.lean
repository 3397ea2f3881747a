/-! what a pass needs holds again behind it -/
section P66
variable {h g : HP}
theorem TLD_r {B : Int} (hO : OKC h B) {hr t : Nat} (ht : t < 12) (h4 : 0 < h 40 t) : TLD h hr t = -1 ∨ (0 ≤ TLD h hr t ∧ TLD h hr t ≤ mostT t) := TEL_r hO.2.2.2.1 ht ((TX_r hO.2.2.2.1 ht).mp h4) (EV h hr)
set_option maxHeartbeats 4000000 in
theorem OKC_s {B : Int} {hr : Nat} (hO : OKC h B) (h2 : 2000000 ≤ B) (hP : PAS h g hr (h 2 0).toNat) : OKC g (B + 40000) := by
  obtain ⟨⟨⟨r56, r57, r58, r59, r60, r61, r62, r63, r64, r65⟩, ⟨r78, r79, r80⟩, ⟨r84, r85, r86, r87⟩, ⟨r90, r91, r92, r93, r94, r95, r96, r97⟩, ⟨r99, r101, r103, r104, r105⟩⟩, ⟨r76, r77, r114, r81, r88, r66, r67⟩, ⟨r102, r100, r106, r51, r52, r53, r54⟩, r120, r122⟩ := id hO
  have F : ∀ q, (q ≠ 7 ∧ q ≠ 53 ∧ q ≠ 29 ∧ q ≠ 8 ∧ q ≠ 9 ∧ q ≠ 52 ∧ q ≠ 54 ∧ q ≠ 55) → g q = h q := fun q hq => hP.1 q hq.1 hq.2.1 hq.2.2.1 hq.2.2.2.1 hq.2.2.2.2.1 hq.2.2.2.2.2.1 hq.2.2.2.2.2.2.1 hq.2.2.2.2.2.2.2
  have fl : ∀ p : Nat, (g 8 p = h 8 p ∧ g 9 p = h 9 p) ∨ (g 8 p = g 9 p ∧ 0 ≤ g 8 p ∧ g 8 p ≤ 2) := by
    intro p
    rw [hP.2.1.2.2.1, hP.2.1.2.2.2]
    unfold hF
    by_cases c : p < (h 2 0).toNat ∧ ¬ h 8 p = 3 ∧ 0 < h 40 (4 + p) ∧ 0 ≤ TLD h hr (4 + p)
    · have t := TLD_r hO (hr := hr) (t := 4 + p) (by omega) c.2.2.1
      have mt : mostT (4 + p) = 2 := by unfold mostT; rw [if_neg (by omega)]
      rw [mt] at t
      right
      rw [if_pos c, if_pos c]
      exact ⟨rfl, c.2.2.2, by omega⟩
    · left
      rw [if_neg c, if_neg c]
      exact ⟨rfl, rfl⟩
  have n114 : rgA (g 7) 0 (B + 40000) := by
    intro p
    rw [hP.2.1.1]
    unfold h7S
    split
    · exact h7_grow hO h2 (by omega)
    · have := r114 p
      omega
  have n81 : flc (g 8) (g 9) := by
    intro p
    have x := r81 p
    rcases fl p with ⟨a, b⟩ | ⟨a, b, c⟩
    · rw [a, b]; exact x
    · right
      refine ⟨by omega, by omega, fun _ => a.symm⟩
  have n106 : rgA (g 29) 0 3 := by
    intro k
    rw [hP.2.1.2.1]
    unfold hS
    split
    · next c =>
      have t := TLD_r hO (hr := hr) (t := k) (by omega) c.2.2.1
      have mt : mostT k = 1 := by unfold mostT; rw [if_pos (by omega)]
      rw [mt] at t
      omega
    · exact r106 k
  have n122 : ownT (h 40) (g 8) (h 2 0) := by
    intro p hp h4
    have x := r122 p hp h4
    rcases fl p with ⟨a, b⟩ | ⟨a, b, c⟩
    · rw [a]; exact x
    · exact ⟨x.1, b⟩
  unfold OKC RK TX
  simp only [F 2 (by decide), F 3 (by decide), F 4 (by decide), F 5 (by decide), F 6 (by decide), F 12 (by decide), F 13 (by decide), F 14 (by decide), F 15 (by decide), F 17 (by decide), F 18 (by decide), F 19 (by decide), F 20 (by decide), F 22 (by decide), F 23 (by decide), F 24 (by decide), F 25 (by decide), F 26 (by decide), F 27 (by decide), F 28 (by decide), F 30 (by decide), F 31 (by decide), F 32 (by decide), F 33 (by decide), F 34 (by decide), F 39 (by decide), F 40 (by decide), F 103 (by decide), F 104 (by decide)]
  exact ⟨⟨⟨r56, r57, r58, r59, r60, r61, r62, r63, r64, r65⟩, ⟨r78, r79, r80⟩, ⟨r84, r85, r86, r87⟩, ⟨r90, r91, r92, r93, r94, r95, r96, r97⟩, ⟨r99, r101, r103, r104, r105⟩⟩, ⟨r76, r77, n114, n81, r88, r66, r67⟩, ⟨r102, r100, n106, r51, r52, r53, r54⟩, r120, n122⟩
end P66
