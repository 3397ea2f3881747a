/-! settle -/
set_option maxHeartbeats 8000000 in
theorem c_settle {d : Nat} {h : HP} {Q : PV → HP → Prop} (hR : RK h) (hS : SCN h) (H : ∀ h', FS h h' → GR (h 2 0).toNat (ntC h) (h' 48) → Q (I 0) h') : X (d + 4) 65 0 [some (P 41), none] [] h Q := by
  have r56 := hR.1.1
  have L1 := c_plts (d := d) hR hS H
  refine b65_0 (b70_0 (c_fill49 (b70_13 (c_fill45 (b70_21 (c_fill50 (b70_29 (c_fill51 (b70_37 (b65_17 ?_))))))))))
  generalize hgg : setr (setr (setr (setr (up2 h 44 1 (h 2 0)) 49 (fun j => if j < 8 then 0 else up2 h 44 1 (h 2 0) 49 j)) 45 (fun j => if j < 8 then 0 else setr (up2 h 44 1 (h 2 0)) 49 (fun j => if j < 8 then 0 else up2 h 44 1 (h 2 0) 49 j) 45 j)) 50 (fun j => if j < 64 then 0 else setr (setr (up2 h 44 1 (h 2 0)) 49 (fun j => if j < 8 then 0 else up2 h 44 1 (h 2 0) 49 j)) 45 (fun j => if j < 8 then 0 else setr (up2 h 44 1 (h 2 0)) 49 (fun j => if j < 8 then 0 else up2 h 44 1 (h 2 0) 49 j) 45 j) 50 j)) 51 (fun j => if j < 64 then 0 else setr (setr (setr (up2 h 44 1 (h 2 0)) 49 (fun j => if j < 8 then 0 else up2 h 44 1 (h 2 0) 49 j)) 45 (fun j => if j < 8 then 0 else setr (up2 h 44 1 (h 2 0)) 49 (fun j => if j < 8 then 0 else up2 h 44 1 (h 2 0) 49 j) 45 j)) 50 (fun j => if j < 64 then 0 else setr (setr (up2 h 44 1 (h 2 0)) 49 (fun j => if j < 8 then 0 else up2 h 44 1 (h 2 0) 49 j)) 45 (fun j => if j < 8 then 0 else setr (up2 h 44 1 (h 2 0)) 49 (fun j => if j < 8 then 0 else up2 h 44 1 (h 2 0) 49 j) 45 j) 50 j) 51 j) = gg
  have fg : FS h gg := by rw [← hgg]; exact FS_s (FS_s (FS_s (FS_s (FS_u (FS_r h) (by decide) (by decide)) (by decide) (by decide)) (by decide) (by decide)) (by decide) (by decide)) (by decide) (by decide)
  have q44 : gg 44 1 = h 2 0 := by rw [← hgg, setr_p (by decide), setr_p (by decide), setr_p (by decide), setr_p (by decide), up_s]
  have q49 : ∀ p, p < 8 → gg 49 p = 0 := fun p hp => by rw [← hgg, setr_p (by decide), setr_p (by decide), setr_p (by decide), setr_s]; simp [hp]
  have q45 : ∀ p, p < 8 → gg 45 p = 0 := fun p hp => by rw [← hgg, setr_p (by decide), setr_p (by decide), setr_s]; simp [hp]
  have q50 : ∀ p, p < 64 → gg 50 p = 0 := fun p hp => by rw [← hgg, setr_p (by decide), setr_s]; simp [hp]
  have q51 : ∀ p, p < 64 → gg 51 p = 0 := fun p hp => by rw [← hgg, setr_s]; simp [hp]
  have eg : gg = up2 (up2 gg 44 1 0) 44 1 (h 2 0) := by
    funext q j
    simp only [up2]
    by_cases c : q = 44 ∧ j = 1
    · obtain ⟨c1, c2⟩ := c
      subst c1 c2
      simp [q44]
    · simp only [c, if_false]
  rw [eg]
  refine L1 (h 2 0).toNat 0 (by omega) _ ⟨FS_u fg (by decide) (by decide), by rw [up_s]; rfl, fun p hp => ?_, fun p hp => absurd hp (by omega)⟩ ?_ ?_ ?_
  · rw [up_p (by decide), q45 p hp]; simp
  · rw [up_p (by decide)]; exact q49
  · rw [up_p (by decide)]; exact q50
  · rw [up_p (by decide)]; exact q51
theorem c_warmth {d : Nat} {h : HP} {Q : PV → HP → Prop} {p : Int} (hR : RK h) (hS : SCN h) (p0 : 0 ≤ p) (p8 : p < 8) (H : ∀ h', FS h h' → GR (h 2 0).toNat (ntC h) (h' 48) → Q (I (h' 48 p.toNat)) h') : X (d + 5) 62 0 [some (P 41), some (I p)] [] h Q :=
  b62_0 (c_settle hR hS (fun h' hf hg => b62_4 (an_i p0 p8 (H h' hf hg))))
