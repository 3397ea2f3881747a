/-! solve -/
section CLS
variable {n N1 N2 : Nat} {a b l a2 b2 l2 z : Nat → Int}
set_option maxHeartbeats 4000000 in
theorem c_solve {d : Nat} {h : HP} {Q : PV → HP → Prop} (hC : CS h n N1 N2 a b l a2 b2 l2 z) (H : ∀ h', o48 h h' → GR n (ntS h N1 N2 a b l a2 b2 l2 z) (h' 48) → Q (I 0) h') : X (d + 3) 73 0 [some (P 44), none, none, none, none] [] h Q := by
  obtain ⟨⟨hn, n8, m20, m8⟩, -, -, ⟨k1, k2⟩, -, hnr, -, -⟩ := id hC
  have L : ∀ k i : Nat, i + k = n → ∀ tp : Int, 0 ≤ tp → tp ≤ 600 → (∀ q, q < i → ∀ t, tp < t → t ≤ 600 → h 45 q < TS h q t) → X (d + 3) 73 4 [some (P 44), some (I tp), some (I i), none, none] [] h Q := by
    intro k
    induction k with
    | zero =>
      intro i hi tp t0 t6 ht
      refine b73_4 (br_i (fun _ => c_fill48 (b73_37 ?_)) (fun q => absurd (by rw [hn]; omega) q))
      generalize hg : setr h 48 (fun j => if j < 8 then tp else h 48 j) = g
      have ho : o48 h g := fun q hq => by rw [← hg]; exact setr_p hq
      have e48 : ∀ q, q < 8 → g 48 q = tp := fun q hq => by rw [← hg, setr_s]; simp [hq]
      have e44 : g 44 1 = n := by rw [ho 44 (by decide)]; exact hn
      rw [e44]
      have ar := all_r (n := (n : Int)) (by omega) (by omega)
      simp only [Int.toNat_natCast] at ar
      refine c_turns hC H _ g _ 0 ho ⟨fun q hq => ?_, ?_⟩ ar.1 ar.2 (fun q hq hb => ?_) (by omega) (Or.inr ?_) (by omega) (Nat.le_refl _)
      · rw [e48 q (by omega)]; exact ⟨t0, t6⟩
      · have ub := nt_ub (G := h 45) (T := TS h) (z := z) k1 k2 t0 (fun p t hp t1 t2 hge => by
          rcases Int.lt_or_le tp t with c | c
          · have := ht p (by omega) t c t2
            omega
          · exact c)
        intro w hw q hq
        rw [e48 q (by omega)]
        exact ub w hw q hq
      · rw [bit_all (by omega) (by omega)] at hb
        simp at hb
        omega
      · have := sm_b (f := g 48) (n := n) (a := 0) (b := 600) (fun j hj => by rw [e48 j (by omega)]; omega)
        omega
    | succ k ih =>
      intro i hi tp t0 t6 ht
      have e1 : w32 ((i : Int) + 1) = ((i + 1 : Nat) : Int) := by rw [w32_of (by omega) (by omega)]; omega
      refine b73_4 (br_i (fun q => absurd q (by rw [hn]; omega)) (fun _ => c_alone hC (by omega) t0 t6 (fun r r0 r6 hr => b73_19 (z224 (br_i (fun qm => b73_22 ?_) (fun qm => b73_22 ?_))))))
      · rw [e1]
        refine ih (i + 1) (by omega) r (by omega) r6 (fun q hq t t1 t2 => ?_)
        by_cases e : q = i
        · subst e; exact hr t t1 t2
        · exact ht q (by omega) t (by omega) t2
      · rw [e1]
        have e : tp = r := by omega
        refine ih (i + 1) (by omega) tp t0 t6 (fun q hq t t1 t2 => ?_)
        by_cases e2 : q = i
        · subst e2; exact hr t (by omega) t2
        · exact ht q (by omega) t t1 t2
  exact b73_0 (L n 0 (by omega) 0 (by omega) (by omega) (fun q hq => absurd hq (by omega)))
end CLS
