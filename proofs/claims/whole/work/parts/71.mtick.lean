/-! a tick of the model, whole -/
section P71
variable {d : Nat} {c k g : HP} {Q : PV → HP → Prop}
/-- behind the plates, heats to i written -/
def MTK (c k g : HP) (hr i : Nat) : Prop :=
  ((∀ q, q ≠ 69 → q ≠ 73 → q ≠ 95 → q ≠ 75 → q ≠ 76 → ¬ (105 ≤ q ∧ q ≤ 112) → g q = k q) ∧
  (∀ x, ¬ (33 ≤ x ∧ x ≤ 35) → ¬ (49 ≤ x ∧ x ≤ 53) → ¬ (55 ≤ x ∧ x ≤ 62) → g 69 x = k 69 x)) ∧
  (g 73 = h7S c hr i ∧ g 95 = hS c hr (c 26 2).toNat ∧ g 75 = hF c (c 8) hr (c 2 0).toNat ∧ (flp (hF c (c 8) hr (c 2 0).toNat) (hF c (c 9) hr (c 2 0).toNat) (g 76) ∧ ∀ p, c 8 p < 0 → g 76 p = k 76 p)) ∧
  ((0 ≤ k 69 33 ∧ k 69 33 ≤ BG → g 69 33 = k 69 33 + sm (tkT c hr) (c 2 0).toNat) ∧ (0 ≤ k 69 34 ∧ k 69 34 ≤ BG → g 69 34 = k 69 34 + sm (mkP c hr) (c 2 0).toNat) ∧ (0 ≤ k 69 35 ∧ k 69 35 ≤ BG → g 69 35 = k 69 35 + sm (snC c hr) (c 2 0).toNat)) ∧
  (∀ p, p < (c 2 0).toNat → g 112 p = CHF c hr p)
theorem h7S_0 {hr : Nat} : h7S c hr 0 = c 7 := by
  funext p
  unfold h7S
  rw [if_neg (by omega)]
set_option maxHeartbeats 4000000 in
theorem m_hea {B : Int} {hr : Nat} (hT : TKR c k B) (hB : B ≤ 2000000000) (H : ∀ g, MTK c k g hr (c 2 0).toNat → Q (I 0) (up2 g 69 32 (w32 (k 69 32 + 1)))) {g : HP} (hg : PM c k g hr (c 2 0).toNat) : X d 182 381 [some (P 69), some (I (hr : Int)), some (I 0), none, none, none, none] [] g Q := by
  have hO := hT.1
  obtain ⟨⟨⟨r56, r57, r58, r59, r60, r61, r62, r63, r64, r65⟩, ⟨r78, r79, r80⟩, ⟨r84, r85, r86, r87⟩, ⟨r90, r91, r92, r93, r94, r95, r96, r97⟩, ⟨r99, r101, r103, r104, r105⟩⟩, ⟨r76, r77, r114, r81, r88, r66, r67⟩, -⟩ := id hO
  have k9 : k 69 9 = c 2 0 := hT.2.2.2.2.2.1.1
  have L : ∀ m i : Nat, i + m = (c 2 0).toNat → ∀ g, MTK c k g hr i → X d 182 381 [some (P 69), some (I (hr : Int)), some (I (i : Int)), none, none, none, none] [] g Q := by
    intro m
    induction m with
    | zero =>
      intro i hi g hg
      have e9 : g 69 9 = c 2 0 := by rw [hg.1.2 9 (by decide) (by decide) (by decide)]; exact k9
      have e32 : g 69 32 = k 69 32 := hg.1.2 32 (by decide) (by decide) (by decide)
      have ei : i = (c 2 0).toNat := by omega
      subst ei
      refine b182_381 (br_i (fun _ => ?_) (fun q => absurd (by rw [e9]; omega) q))
      rw [e32]
      exact H g hg
    | succ m ih =>
      intro i hi g hg
      have e9 : g 69 9 = c 2 0 := by rw [hg.1.2 9 (by decide) (by decide) (by decide)]; exact k9
      have e73 : g 73 i = c 7 i := by rw [hg.2.1.1]; unfold h7S; rw [if_neg (by omega)]
      have e112 := hg.2.2.2 i (by omega)
      have x7 := r114 i
      have cr : -1900000 ≤ CHF c hr i ∧ CHF c hr i ≤ 1800000 := CHG_r hO (by omega) (by omega) (Nat.le_refl _) (Nat.le_refl _)
      have N : ∀ v, v = mx0 (c 7 i + CHF c hr i) → X d 182 427 [some (P 69), some (I (hr : Int)), some (I (i : Int)), none, none, none, none] [I v, I (i : Int), P 73] g Q := by
        intro v hv
        subst hv
        refine b182_427 (an_i (by omega) (by omega) ?_)
        rw [w32_n (by omega)]
        simp only [Int.toNat_natCast]
        refine ih (i + 1) (by omega) _ ⟨⟨fun q h1 h2 h3 h4 h5 h6 => by rw [up_p h2]; exact hg.1.1 q h1 h2 h3 h4 h5 h6, by rw [up_p (by decide)]; exact hg.1.2⟩, ⟨?_, ?_, ?_, ?_⟩, ?_, ?_⟩
        · rw [up_st, hg.2.1.1]; exact h7S_s
        · rw [up_p (by decide)]; exact hg.2.1.2.1
        · rw [up_p (by decide)]; exact hg.2.1.2.2.1
        · rw [up_p (by decide)]; exact hg.2.1.2.2.2
        · rw [up_p (by decide)]; exact hg.2.2.1
        · rw [up_p (by decide)]; exact hg.2.2.2
      refine b182_381 (br_i (fun q => absurd q (by rw [e9]; omega)) (fun _ => an_i (by omega) (by omega) (an_i (by omega) (by omega) ?_)))
      simp only [Int.toNat_natCast]
      rw [e73, e112, w32_of (x := c 7 i + CHF c hr i) (by omega) (by omega)]
      refine br_i (fun q => an_i (by omega) (by omega) (an_i (by omega) (by omega) (N _ ?_))) (fun q => N _ ?_)
      · unfold mx0
        split <;> omega
      · unfold mx0
        rw [if_neg (by omega)]
  refine L (c 2 0).toNat 0 (by omega) g ⟨⟨fun q h1 h2 h3 h4 h5 h6 => hg.1.1.1 q h1 h3 h4 h5 h6, hg.1.1.2⟩, ⟨?_, hg.1.2.1.2.1, hg.1.2.1.2.2.1, hg.1.2.1.2.2.2⟩, hg.2.1, hg.2.2⟩
  rw [(PF_c hT hg.1).1.2.2.2.1, h7S_0]
/-- the scene laid out, as the class's rows have it -/
theorem LAY_PM {B : Int} {hr : Nat} {g2 g3 : HP} (hT : TKR c k B) (hg : HM c k g hr (c 26 2).toNat (c 2 0).toNat) (hL : LAY g g2 hr (c 12 1) (c 17 1) (c 22 2) (c 26 2) (c 2 0)) (f : ∀ q, q ≠ 108 → g3 q = g2 q) (h108 : ∀ j : Nat, (j : Int) < c 22 2 → (g3 108 j = 0 ↔ c 25 j = 0)) : PM c k g3 hr 0 := by
  obtain ⟨-, -, ⟨k79, k80, k81, k82⟩, ⟨k83, k84, k85, k86, k87, k88, k89⟩, ⟨k90, k91, k93, k94, k95⟩, ⟨k9, k17, k22, k26, k30, k31⟩, -⟩ := id hT
  have G : ∀ q, (q ≠ 69 ∧ q ≠ 105 ∧ q ≠ 95 ∧ q ≠ 75 ∧ q ≠ 76) → g q = k q := fun q hq => hg.1 q hq.1 hq.2.1 hq.2.2.1 hq.2.2.2.1 hq.2.2.2.2
  obtain ⟨l1, l2, ⟨l59, l60, l61, l62⟩, l106, l107, l108, l110, l111⟩ := id hL
  have S : ∀ x, ¬ (49 ≤ x ∧ x ≤ 53) → ¬ (55 ≤ x ∧ x ≤ 62) → g3 69 x = k 69 x := fun x h1 h2 => by
    rw [f 69 (by decide), l2 x (by omega)]; exact hg.2.1 x h1 (by omega)
  refine ⟨⟨⟨fun q h1 h2 h3 h4 h5 => ?_, fun x h1 h2 h3 => S x h2 h3⟩, ⟨fun p hp => ?_, ?_, ?_, ?_⟩, ⟨?_, ?_, ?_, ?_⟩, ⟨fun j hj => ?_, fun j hj => ?_, fun j hj => ⟨h108 j hj, ?_⟩, fun j hj => ?_, fun p hp => ?_⟩⟩, ⟨fun _ => ?_, fun _ => ?_, fun _ => ?_⟩, fun p hp => absurd hp (by omega)⟩
  · rw [f q (by omega), l1 q h1 (by omega)]; exact hg.1 q h1 (by omega) h2 h3 h4
  · rw [f 105 (by decide), l1 105 (by decide) (by decide)]; exact hg.2.2.1 p hp
  · rw [f 95 (by decide), l1 95 (by decide) (by decide)]; exact hg.2.2.2.2.1
  · rw [f 75 (by decide), l1 75 (by decide) (by decide)]; exact hg.2.2.2.2.2.1
  · rw [f 76 (by decide), l1 76 (by decide) (by decide)]; exact hg.2.2.2.2.2.2
  · rw [f 69 (by decide), l59, G 82 (by decide), k82]
  · rw [f 69 (by decide), l60, hg.2.1 31 (by decide) (by decide), k31]
  · rw [f 69 (by decide), l61]
  · rw [f 69 (by decide), l62]
  · rw [f 106 (by decide), l106 j hj, G 85 (by decide), k85]
  · rw [f 107 (by decide), l107 j hj, G 89 (by decide), k89]
  · rw [f 109 (by decide), (l108 j hj).2, G 90 (by decide), k90]
  · rw [f 110 (by decide), l110 j hj, hg.2.2.2.2.1]; rfl
  · rw [f 111 (by decide), l111 p hp, hg.2.2.2.2.2.1]
    rcases hg.2.2.2.2.2.2.1 p with ⟨a, b⟩ | ⟨a, b, e1, e2⟩
    · rw [if_pos (by omega)]; exact b.symm
    · rw [if_neg (by omega)]; exact e2
  · rw [S 33 (by decide) (by decide)]; simp [sm]
  · rw [S 34 (by decide) (by decide)]; simp [sm]
  · rw [S 35 (by decide) (by decide)]; simp [sm]
set_option maxHeartbeats 4000000 in
theorem m_scn {B : Int} {hr : Nat} (hT : TKR c k B) (hY : BYH c k hr) (hr1 : hr < 12) (H : ∀ g, PM c k g hr 0 → X d 182 250 [some (P 69), some (I (hr : Int)), some (I 0), none, none, none, none] [] g Q) {e : Nat} {v : Int} {g : HP} (hg : HM c k g hr (c 26 2).toNat (c 2 0).toNat) : X e 177 0 [some (P 69), some (I (hr : Int)), none] [] g (fun _ h' => X d 182 215 [some (P 69), some (I (hr : Int)), some (I v), none, none, none, none] [] h' Q) := by
  have hO := hT.1
  obtain ⟨⟨⟨r56, r57, r58, r59, r60, r61, r62, r63, r64, r65⟩, ⟨r78, r79, r80⟩, ⟨r84, r85, r86, r87⟩, ⟨r90, r91, r92, r93, r94, r95, r96, r97⟩, ⟨r99, r101, r103, r104, r105⟩⟩, -⟩ := id hO
  obtain ⟨-, -, -, ⟨k83, k84, k85, k86, k87, k88, k89⟩, -, ⟨k9, k17, k22, k26, k30, k31⟩, ⟨j2, j12, j17, j22, j26⟩, -, ⟨-, z21, z92⟩⟩ := id hT
  have G : ∀ q, (q ≠ 69 ∧ q ≠ 105 ∧ q ≠ 95 ∧ q ≠ 75 ∧ q ≠ 76) → g q = k q := fun q hq => hg.1 q hq.1 hq.2.1 hq.2.2.1 hq.2.2.2.1 hq.2.2.2.2
  have S : ∀ x, (¬ (49 ≤ x ∧ x ≤ 53) ∧ ¬ (55 ≤ x ∧ x ≤ 58)) → g 69 x = k 69 x := fun x hx => hg.2.1 x hx.1 hx.2
  have e2 : g 2 = c 2 := by rw [G 2 (by decide), j2]
  have e12 : g 12 = c 12 := by rw [G 12 (by decide), j12]
  have e17 : g 17 = c 17 := by rw [G 17 (by decide), j17]
  have e22 : g 22 = c 22 := by rw [G 22 (by decide), j22]
  have e26 : g 26 = c 26 := by rw [G 26 (by decide), j26]
  have e92 : g 92 = k 92 := G 92 (by decide)
  refine m_layK ?_ (by omega) (by omega) (fun g2 hL => ?_)
  · rw [e2, e12, e17, e22, e26, S 9 (by decide), S 17 (by decide), S 22 (by decide), S 26 (by decide), S 30 (by decide), k9, k17, k22, k26, k30, G 89 (by decide), k89, e92]
    exact ⟨⟨rfl, rfl, rfl, rfl, rfl⟩, ⟨r56, r57, r58, r59, r60, r61, r62, r63, r64, r65⟩, z21, z92⟩
  · rw [e2, e12, e17, e22, e26] at hL
    simp only [Int.toNat_natCast] at hL
    have s70 : g2 69 70 = k 69 70 := by rw [hL.2.1 70 (by decide), S 70 (by decide)]
    have s71 : g2 69 71 = k 69 71 := by rw [hL.2.1 71 (by decide), S 71 (by decide)]
    refine b182_215 ?_
    rw [s70, s71]
    rcases hY with ⟨a, b⟩ | ⟨b, b8, eb, hb, hj⟩
    · refine br_i (fun _ => b182_248 (H g2 (LAY_PM hT hg hL (fun _ _ => rfl) (fun j hj => ?_)))) (fun q => absurd a q)
      rw [(hL.2.2.2.2.2.1 j hj).1, e92, b]
    · rw [eb]
      have W : ∀ w : Int, (w = 0 ↔ c 25 b = 0) → PM c k (up2 g2 108 b w) hr 0 := fun w hw => LAY_PM hT hg hL (fun q hq => up_p hq) (fun j hj2 => by
        rw [up_st]
        by_cases ej : j = b
        · subst ej; rw [st1_s]; exact hw
        · rw [st1_n ej, (hL.2.2.2.2.2.1 j hj2).1, e92, hj j ej])
      refine br_i (fun q => absurd q (by omega)) (fun _ => br_i (fun q => b182_247 (an_i (by omega) (by omega) ⟨Or.inl rfl, b182_248 (H _ (W 0 ?_))⟩)) (fun q => b182_247 (an_i (by omega) (by omega) ⟨Or.inr rfl, b182_248 (H _ (W 1 ?_))⟩)))
      · have : ¬ ¬ c 25 b = 0 := fun x => q (hb.mpr x)
        exact ⟨fun _ => Classical.not_not.mp this, fun _ => rfl⟩
      · have := hb.mp (Classical.not_not.mp q)
        exact ⟨fun x => absurd x (by decide), fun x => absurd x this⟩
/-- a tick of the model -/
theorem m_tick {B : Int} {hr : Nat} (hT : TKR c k B) (hB : B ≤ 2000000000) (hY : BYH c k hr) (eh : Int.tmod (k 69 32) 12 = (hr : Int)) (hr1 : hr < 12) (H : ∀ g, MTK c k g hr (c 2 0).toNat → Q (I 0) (up2 g 69 32 (w32 (k 69 32 + 1)))) : X (d + 21) 182 0 [some (P 69), none, none, none, none, none, none] [] k Q := by
  refine b182_0 ?_
  rw [eh]
  obtain ⟨-, ⟨k70, k71, k72, k73, k74, k75⟩, ⟨k79, k80, k81, k82⟩, -, ⟨k90, k91, k93, k94, k95⟩, -, -, -, ⟨zf, -, -⟩⟩ := id hT
  refine m_warm hT hB hr1 (fun g f e => m_hts hT (fun g2 h2 => m_fls hT (fun g3 h3 => m_scn hT hY hr1 (fun g4 h4 => m_plt (d := d + 19) hT hB (fun g5 h5 => m_hea hT hB H h5) h4) h3) h2) ⟨fun q h1 h2 h3 h4 h5 => by rw [up_p h1, up_p h1]; exact f q h2, fun x h1 h2 => by rw [up_i (by omega), up_i (by omega), f 69 (by decide)], fun p hp => by rw [up_p (by decide), up_p (by decide)]; exact e p hp, ⟨?_, ?_⟩, ?_, ?_, ?_⟩)
  · rw [up_i (by decide), up_s, f 82 (by decide), k82]
  · rw [up_s]
  · rw [up_p (by decide), up_p (by decide), f 95 (by decide), k95]; funext j; exact (hS_i (by omega)).symm
  · rw [up_p (by decide), up_p (by decide), f 75 (by decide), k75]; funext j; exact (hF_i (by omega)).symm
  · rw [up_p (by decide), up_p (by decide), f 76 (by decide)]
    have e1 : hF c (c 8) hr 0 = c 8 := by funext j; exact hF_i (by omega)
    have e2 : hF c (c 9) hr 0 = c 9 := by funext j; exact hF_i (by omega)
    rw [e1, e2]; exact ⟨zf, fun _ _ => rfl⟩
end P71
