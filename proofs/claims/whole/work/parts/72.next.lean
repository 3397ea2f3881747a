/-! a pass as a pure step of rows; the same class's heaps but for scratch -/
section P72
variable {a b c k g : HP}
def nx (c : HP) (hr : Nat) : HP := fun q => if q = 7 then h7S c hr (c 2 0).toNat else if q = 29 then hS c hr (c 26 2).toNat else if q = 8 then hF c (c 8) hr (c 2 0).toNat else if q = 9 then hF c (c 9) hr (c 2 0).toNat else if q = 52 then (fun j => if j = 2 then sm (tkT c hr) (c 2 0).toNat else if j = 3 then sm (mkF (c 24) (c 25)) (c 22 2).toNat + sm (mkF (c 28) (onH c hr)) (c 26 2).toNat else if j = 4 then sm (snC c hr) (c 2 0).toNat else c 52 j) else if q = 54 then CHF c hr else if q = 55 then sdT c hr else c q
theorem nx_P (c : HP) (hr : Nat) : PAS c (nx c hr) hr (c 2 0).toNat := by
  refine ⟨fun q h1 h2 h3 h4 h5 h6 h7 h8 => ?_, ⟨rfl, rfl, rfl, rfl⟩, ⟨rfl, rfl, rfl, rfl, rfl⟩, fun p hp => ⟨rfl, rfl⟩⟩
  unfold nx
  rw [if_neg h1, if_neg h3, if_neg h4, if_neg h5, if_neg h6, if_neg h7, if_neg h8]
theorem nx_f {q : Nat} {hr : Nat} (hq : q ≠ 7 ∧ q ≠ 29 ∧ q ≠ 8 ∧ q ≠ 9 ∧ q ≠ 52 ∧ q ≠ 54 ∧ q ≠ 55) : nx c hr q = c q := by
  unfold nx
  rw [if_neg hq.1, if_neg hq.2.1, if_neg hq.2.2.1, if_neg hq.2.2.2.1, if_neg hq.2.2.2.2.1, if_neg hq.2.2.2.2.2.1, if_neg hq.2.2.2.2.2.2]
theorem OKC_n {B : Int} {hr : Nat} (hO : OKC c B) (h2 : 2000000 ≤ B) : OKC (nx c hr) (B + 40000) := OKC_s hO h2 (nx_P c hr)
/-- the class's rows alike, but for what a pass doesn't read -/
def AG (a b : HP) : Prop := ∀ q, q ≠ 0 → q ≠ 67 → ¬ (52 ≤ q ∧ q ≤ 56) → q < 69 ∨ q = 103 ∨ q = 104 → a q = b q
theorem AG_r (a : HP) : AG a a := fun _ _ _ _ _ => rfl
theorem AG_t (h1 : AG a b) (h2 : AG b c) : AG a c := fun q q1 q2 q3 q4 => (h1 q q1 q2 q3 q4).trans (h2 q q1 q2 q3 q4)
theorem AG_y (h1 : AG a b) : AG b a := fun q q1 q2 q3 q4 => (h1 q q1 q2 q3 q4).symm
theorem AG_q (h1 : AG a b) {q : Nat} (hq : q ≠ 0 ∧ q ≠ 67 ∧ ¬ (52 ≤ q ∧ q ≤ 56) ∧ (q < 69 ∨ q = 103 ∨ q = 104)) : a q = b q := h1 q hq.1 hq.2.1 hq.2.2.1 hq.2.2.2
theorem OKC_a {B : Int} (h : AG a b) (hO : OKC a B) : OKC b B := by
  have E := fun q hq => (AG_q h (q := q) hq).symm
  unfold OKC RK TX at *
  rw [E 2 (by decide), E 3 (by decide), E 4 (by decide), E 5 (by decide), E 6 (by decide), E 7 (by decide), E 8 (by decide), E 9 (by decide), E 12 (by decide), E 13 (by decide), E 14 (by decide), E 15 (by decide), E 17 (by decide), E 18 (by decide), E 19 (by decide), E 20 (by decide), E 22 (by decide), E 23 (by decide), E 24 (by decide), E 25 (by decide), E 26 (by decide), E 27 (by decide), E 28 (by decide), E 29 (by decide), E 30 (by decide), E 31 (by decide), E 32 (by decide), E 33 (by decide), E 34 (by decide), E 39 (by decide), E 40 (by decide), E 103 (by decide), E 104 (by decide)]
  exact hO
theorem wrm_a (h : AG a b) : wrm a = wrm b := by
  funext p
  unfold wrm
  rw [AG_q h (q := 7) (by decide), AG_q h (q := 3) (by decide)]
theorem TLD_a (h : AG a b) : TLD a = TLD b := by
  funext hr t
  unfold TLD TEL EV
  rw [AG_q h (q := 103) (by decide), AG_q h (q := 104) (by decide), AG_q h (q := 34) (by decide), AG_q h (q := 2) (by decide), wrm_a h]
theorem hS_a (h : AG a b) : hS a = hS b := by
  funext hr i k
  unfold hS
  rw [AG_q h (q := 29) (by decide), AG_q h (q := 40) (by decide), TLD_a h]
theorem hF_a (h : AG a b) : hF a = hF b := by
  funext w hr i k
  unfold hF
  rw [AG_q h (q := 8) (by decide), AG_q h (q := 40) (by decide), TLD_a h]
theorem onH_a (h : AG a b) : onH a = onH b := by
  funext hr k
  unfold onH
  rw [hS_a h, AG_q h (q := 26) (by decide)]
theorem tkT_a (h : AG a b) : tkT a = tkT b := by
  funext hr p
  unfold tkT
  rw [AG_q h (q := 4) (by decide), AG_q h (q := 5) (by decide), AG_q h (q := 32) (by decide), AG_q h (q := 6) (by decide), AG_q h (q := 34) (by decide), AG_q h (q := 30) (by decide)]
theorem sdT_a (h : AG a b) : sdT a = sdT b := by
  funext hr p
  unfold sdT
  rw [AG_q h (q := 31) (by decide), AG_q h (q := 4) (by decide), hF_a h, AG_q h (q := 9) (by decide), AG_q h (q := 2) (by decide), AG_q h (q := 33) (by decide), AG_q h (q := 5) (by decide), AG_q h (q := 30) (by decide), wrm_a h]
theorem CHF_a (h : AG a b) : CHF a = CHF b := by
  funext hr p
  unfold CHF CHG
  rw [tkT_a h, sdT_a h, onH_a h, wrm_a h, AG_q h (q := 24) (by decide), AG_q h (q := 23) (by decide), AG_q h (q := 25) (by decide), AG_q h (q := 28) (by decide), AG_q h (q := 27) (by decide), AG_q h (q := 13) (by decide), AG_q h (q := 14) (by decide), AG_q h (q := 15) (by decide), AG_q h (q := 18) (by decide), AG_q h (q := 19) (by decide), AG_q h (q := 20) (by decide), AG_q h (q := 21) (by decide), AG_q h (q := 22) (by decide), AG_q h (q := 26) (by decide), AG_q h (q := 12) (by decide), AG_q h (q := 17) (by decide)]
theorem snC_a (h : AG a b) : snC a = snC b := by
  funext hr p
  unfold snC
  rw [AG_q h (q := 7) (by decide), CHF_a h, sdT_a h]
theorem h7S_a (h : AG a b) : h7S a = h7S b := by
  funext hr i p
  unfold h7S
  rw [AG_q h (q := 7) (by decide), CHF_a h]
/-- what a pass leaves, by another heap with the same rows -/
theorem PAS_a {hr : Nat} (h : AG a b) (hP : PAS a g hr (a 2 0).toNat) : AG g (nx b hr) ∧ g 52 2 = nx b hr 52 2 ∧ g 52 3 = nx b hr 52 3 ∧ g 52 4 = nx b hr 52 4 ∧ (∀ q, ¬ (52 ≤ q ∧ q ≤ 55) → q ≠ 7 → q ≠ 8 → q ≠ 9 → q ≠ 29 → g q = a q) ∧ g 52 5 = a 52 5 ∧ g 52 6 = a 52 6 := by
  have e2 := AG_q h (q := 2) (by decide)
  have e22 := AG_q h (q := 22) (by decide)
  have e26 := AG_q h (q := 26) (by decide)
  have F : ∀ q, ¬ (52 ≤ q ∧ q ≤ 55) → q ≠ 7 → q ≠ 8 → q ≠ 9 → q ≠ 29 → g q = a q := fun q h1 h2 h3 h4 h5 => hP.1 q h2 (by omega) h5 h3 h4 (by omega) (by omega) (by omega)
  refine ⟨fun q q1 q2 q3 q4 => ?_, ?_, ?_, ?_, F, hP.2.2.1.2.2.2.1, hP.2.2.1.2.2.2.2⟩
  · by_cases c7 : q = 7
    · subst c7; rw [hP.2.1.1, h7S_a h, e2]; rfl
    by_cases c29 : q = 29
    · subst c29; rw [hP.2.1.2.1, hS_a h, e26]; rfl
    by_cases c8 : q = 8
    · subst c8; rw [hP.2.1.2.2.1, hF_a h, e2, AG_q h (q := 8) (by decide)]; rfl
    by_cases c9 : q = 9
    · subst c9; rw [hP.2.1.2.2.2, hF_a h, e2, AG_q h (q := 9) (by decide)]; rfl
    rw [F q (by omega) c7 c8 c9 c29, nx_f ⟨c7, c29, c8, c9, by omega, by omega, by omega⟩]
    exact h q q1 q2 q3 q4
  · rw [hP.2.2.1.1, tkT_a h, e2]; rfl
  · rw [hP.2.2.1.2.1, onH_a h, e22, e26, AG_q h (q := 24) (by decide), AG_q h (q := 25) (by decide), AG_q h (q := 28) (by decide)]; rfl
  · rw [hP.2.2.1.2.2.1, snC_a h, e2]; rfl
theorem c_passA {d : Nat} {B : Int} {hr : Nat} {Q : PV → HP → Prop} (h : AG a c) (hr1 : hr < 12) (hO : OKC c B) (hB : B ≤ 2000000000) (H : ∀ g, AG g (nx c hr) → (g 52 2 = nx c hr 52 2 ∧ g 52 3 = nx c hr 52 3 ∧ g 52 4 = nx c hr 52 4) → (∀ q, ¬ (52 ≤ q ∧ q ≤ 55) → q ≠ 7 → q ≠ 8 → q ≠ 9 → q ≠ 29 → g q = a q) → g 52 5 = a 52 5 ∧ g 52 6 = a 52 6 → Q (I 0) g) : X (d + 4) 42 0 [some (P 52), some (I (hr : Int)), none] [] a Q :=
  c_pass hr1 (OKC_a (AG_y h) hO) hB (fun g hP => by
    obtain ⟨h1, h2, h3, h4, h5, h6⟩ := PAS_a h hP
    exact H g h1 ⟨h2, h3, h4⟩ h5 h6)
/-- the model's rows go with the class's -/
theorem TKR_n {B : Int} {hr : Nat} {v : Int} (hT : TKR c k B) (h2 : 2000000 ≤ B) (hM : MTK c k g hr (c 2 0).toNat) : TKR (nx c hr) (up2 g 69 32 v) (B + 40000) := by
  obtain ⟨hO, ⟨k70, k71, k72, k73, k74, k75⟩, ⟨k79, k80, k81, k82⟩, ⟨k83, k84, k85, k86, k87, k88, k89⟩, ⟨k90, k91, k93, k94, k95⟩, ⟨k9, k17, k22, k26, k30, k31⟩, ⟨j2, j12, j17, j22, j26⟩, ⟨j39, j40, j103, j104⟩, ⟨-, z21, z92⟩⟩ := id hT
  have G : ∀ q, (q ≠ 69 ∧ q ≠ 73 ∧ q ≠ 95 ∧ q ≠ 75 ∧ q ≠ 76 ∧ ¬ (105 ≤ q ∧ q ≤ 112)) → up2 g 69 32 v q = k q := fun q hq => by rw [up_p hq.1]; exact hM.1.1 q hq.1 hq.2.1 hq.2.2.1 hq.2.2.2.1 hq.2.2.2.2.1 hq.2.2.2.2.2
  have S : ∀ x, (x ≠ 32 ∧ ¬ (33 ≤ x ∧ x ≤ 35) ∧ ¬ (49 ≤ x ∧ x ≤ 53) ∧ ¬ (55 ≤ x ∧ x ≤ 62)) → up2 g 69 32 v 69 x = k 69 x := fun x hx => by rw [up_i hx.1]; exact hM.1.2 x hx.2.1 hx.2.2.1 hx.2.2.2
  have N : ∀ q, (q ≠ 7 ∧ q ≠ 29 ∧ q ≠ 8 ∧ q ≠ 9 ∧ q ≠ 52 ∧ q ≠ 54 ∧ q ≠ 55) → nx c hr q = c q := fun q hq => nx_f hq
  refine ⟨OKC_n hO h2, ?_, ?_, ?_, ?_, ?_, ?_, ?_, ?_⟩
  · rw [G 70 (by decide), G 71 (by decide), G 72 (by decide), G 74 (by decide), N 3 (by decide), N 4 (by decide), N 5 (by decide), N 6 (by decide), up_p (q := 73) (by decide), up_p (q := 75) (by decide)]
    exact ⟨k70, k71, k72, hM.2.1.1, k74, hM.2.1.2.2.1⟩
  · rw [G 79 (by decide), G 80 (by decide), G 81 (by decide), G 82 (by decide), N 31 (by decide), N 32 (by decide), N 33 (by decide), N 34 (by decide)]
    exact ⟨k79, k80, k81, k82⟩
  · rw [G 83 (by decide), G 84 (by decide), G 85 (by decide), G 86 (by decide), G 87 (by decide), G 88 (by decide), G 89 (by decide), N 13 (by decide), N 14 (by decide), N 15 (by decide), N 18 (by decide), N 19 (by decide), N 20 (by decide), N 21 (by decide)]
    exact ⟨k83, k84, k85, k86, k87, k88, k89⟩
  · rw [G 90 (by decide), G 91 (by decide), G 93 (by decide), G 94 (by decide), up_p (q := 95) (by decide), N 23 (by decide), N 24 (by decide), N 27 (by decide), N 28 (by decide)]
    exact ⟨k90, k91, k93, k94, hM.2.1.2.1⟩
  · rw [S 9 (by decide), S 17 (by decide), S 22 (by decide), S 26 (by decide), S 30 (by decide), S 31 (by decide), N 2 (by decide), N 12 (by decide), N 17 (by decide), N 22 (by decide), N 26 (by decide), N 30 (by decide)]
    exact ⟨k9, k17, k22, k26, k30, k31⟩
  · rw [G 2 (by decide), G 12 (by decide), G 17 (by decide), G 22 (by decide), G 26 (by decide), N 2 (by decide), N 12 (by decide), N 17 (by decide), N 22 (by decide), N 26 (by decide)]
    exact ⟨j2, j12, j17, j22, j26⟩
  · rw [G 39 (by decide), G 40 (by decide), G 103 (by decide), G 104 (by decide), N 39 (by decide), N 40 (by decide), N 103 (by decide), N 104 (by decide)]
    exact ⟨j39, j40, j103, j104⟩
  · rw [up_p (q := 76) (by decide), G 92 (by decide), N 21 (by decide)]
    exact ⟨hM.2.1.2.2.2.1, z21, z92⟩
end P72
