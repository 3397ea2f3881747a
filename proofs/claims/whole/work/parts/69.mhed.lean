/-! a tick of the model: heaters, flaps -/
section P69
variable {d : Nat} {c k g : HP} {Q : PV → HP → Prop}
/-- the model's rows in a tick, heaters to i, flaps to j looked at -/
def HM (c k g : HP) (hr i j : Nat) : Prop :=
  (∀ q, q ≠ 69 → q ≠ 105 → q ≠ 95 → q ≠ 75 → q ≠ 76 → g q = k q) ∧
  (∀ x, ¬ (49 ≤ x ∧ x ≤ 53) → ¬ (55 ≤ x ∧ x ≤ 58) → g 69 x = k 69 x) ∧
  (∀ p : Nat, (p : Int) < c 2 0 → g 105 p = wrm c p) ∧ (g 69 55 = c 34 hr ∧ g 69 56 = (hr : Int)) ∧
  g 95 = hS c hr i ∧ g 75 = hF c (c 8) hr j ∧ (flp (hF c (c 8) hr j) (hF c (c 9) hr j) (g 76) ∧ ∀ p, c 8 p < 0 → g 76 p = k 76 p)
theorem HM_e {B : Int} {hr i j : Nat} (hT : TKR c k B) (hg : HM c k g hr i j) : envM g = EV c hr := by
  funext w
  unfold envM EV
  rw [hg.2.2.2.1.1, hg.2.2.2.1.2, hg.2.1 9 (by decide) (by decide), hT.2.2.2.2.2.1.1]
  by_cases q : (w : Int) < c 2 0
  · rw [if_pos q, if_pos q, hg.2.2.1 w q]
  · rw [if_neg q, if_neg q]
theorem HM_t {B : Int} {hr i j t : Nat} (hT : TKR c k B) (hg : HM c k g hr i j) : TEL g t (envM g) = TLD c hr t := by
  rw [HM_e hT hg]
  unfold TLD TEL
  obtain ⟨-, -, -, -, -, -, -, ⟨-, -, k103, k104⟩, -⟩ := id hT
  rw [hg.1 103 (by decide) (by decide) (by decide) (by decide) (by decide), hg.1 104 (by decide) (by decide) (by decide) (by decide) (by decide), k103, k104]
theorem HM_x {B : Int} {hr i j : Nat} (hT : TKR c k B) (hg : HM c k g hr i j) : TX g := by
  have hX := hT.1.2.2.2.1
  unfold TX at *
  obtain ⟨-, -, -, -, -, -, -, ⟨k39, k40, k103, k104⟩, -⟩ := id hT
  rw [hg.1 39 (by decide) (by decide) (by decide) (by decide) (by decide), hg.1 40 (by decide) (by decide) (by decide) (by decide) (by decide), hg.1 103 (by decide) (by decide) (by decide) (by decide) (by decide), hg.1 104 (by decide) (by decide) (by decide) (by decide) (by decide), k39, k40, k103, k104]
  exact hX
theorem HM_rd {g' : HP} {hr i j : Nat} (hg : HM c k g hr i j) (o : oRd g g') : HM c k g' hr i j := by
  refine ⟨fun q h1 h2 h3 h4 h5 => by rw [o.1 q h1]; exact hg.1 q h1 h2 h3 h4 h5, fun x h1 h2 => by rw [o.2 x h1 (by omega) (by omega)]; exact hg.2.1 x h1 h2, ?_, ⟨?_, ?_⟩, ?_, ?_, ?_⟩
  · rw [o.1 105 (by decide)]; exact hg.2.2.1
  · rw [o.2 55 (by decide) (by decide) (by decide)]; exact hg.2.2.2.1.1
  · rw [o.2 56 (by decide) (by decide) (by decide)]; exact hg.2.2.2.1.2
  · rw [o.1 95 (by decide)]; exact hg.2.2.2.2.1
  · rw [o.1 75 (by decide)]; exact hg.2.2.2.2.2.1
  · rw [o.1 76 (by decide)]; exact hg.2.2.2.2.2.2
theorem HM_95 {hr i i' j : Nat} {v : Int} (hg : HM c k g hr i j) (e : st1 (hS c hr i) i v = hS c hr i') : HM c k (up2 g 95 i v) hr i' j := by
  refine ⟨fun q h1 h2 h3 h4 h5 => by rw [up_p h3]; exact hg.1 q h1 h2 h3 h4 h5, ?_, ?_, ?_, ?_, ?_, ?_⟩
  · rw [up_p (by decide)]; exact hg.2.1
  · rw [up_p (by decide)]; exact hg.2.2.1
  · rw [up_p (by decide)]; exact hg.2.2.2.1
  · rw [up_st, hg.2.2.2.2.1]; exact e
  · rw [up_p (by decide)]; exact hg.2.2.2.2.2.1
  · rw [up_p (by decide)]; exact hg.2.2.2.2.2.2
theorem HM_cnt {B : Int} {hr i j : Nat} (hT : TKR c k B) (hg : HM c k g hr i j) : g 69 9 = c 2 0 ∧ g 69 30 = c 26 2 ∧ g 104 = c 104 := by
  obtain ⟨-, -, -, -, -, ⟨k9, -, -, -, k30, -⟩, -, ⟨-, -, -, k104⟩, -⟩ := id hT
  rw [hg.2.1 9 (by decide) (by decide), hg.2.1 30 (by decide) (by decide), hg.1 104 (by decide) (by decide) (by decide) (by decide) (by decide)]
  exact ⟨k9, k30, k104⟩
set_option maxHeartbeats 4000000 in
theorem m_hts {B : Int} {hr : Nat} (hT : TKR c k B) (H : ∀ g, HM c k g hr (c 26 2).toNat 0 → X (d + 21) 182 118 [some (P 69), some (I (hr : Int)), some (I 0), none, none, none, none] [] g Q) {g : HP} (hg : HM c k g hr 0 0) : X (d + 21) 182 52 [some (P 69), some (I (hr : Int)), some (I 0), none, none, none, none] [] g Q := by
  have hO := hT.1
  obtain ⟨⟨⟨r56, r57, r58, r59, r60, r61, r62, r63, r64, r65⟩, ⟨r78, r79, r80⟩, ⟨r84, r85, r86, r87⟩, ⟨r90, r91, r92, r93, r94, r95, r96, r97⟩, ⟨r99, r101, r103, r104, r105⟩⟩, -, -, r120, r122⟩ := id hO
  have L : ∀ m i : Nat, i + m = (c 26 2).toNat → ∀ g, HM c k g hr i 0 → X (d + 21) 182 52 [some (P 69), some (I (hr : Int)), some (I (i : Int)), none, none, none, none] [] g Q := by
    intro m
    induction m with
    | zero =>
      intro i hi g hg
      have e := (HM_cnt hT hg).2.1
      have ei : i = (c 26 2).toNat := by omega
      subst ei
      exact b182_52 (br_i (fun _ => H g hg) (fun q => absurd (by rw [e]; omega) q))
    | succ m ih =>
      intro i hi g hg
      obtain ⟨e9, e30, e104⟩ := HM_cnt hT hg
      have e95 : g 95 i = c 29 i := by rw [hg.2.2.2.2.1, hS_i (Nat.le_refl _)]
      have tr := TX_r r120 (show i < 12 by omega)
      have N : ∀ (g' : HP) (v : Int), HM c k g' hr i 0 → (((c 29 i ≤ 1 ∧ 0 < c 40 i ∧ 0 ≤ TLD c hr i) ∧ v = TLD c hr i) ∨ (v < 0 ∧ ¬ (c 29 i ≤ 1 ∧ 0 < c 40 i ∧ 0 ≤ TLD c hr i))) → X (d + 21) 182 89 [some (P 69), some (I (hr : Int)), some (I (i : Int)), none, none, none, none] [I v] g' Q := by
        intro g' v hg' hv
        rcases hv with ⟨hc, ev⟩ | ⟨v0, hc⟩
        · subst ev
          refine b182_89 (br_i (fun q => absurd q (by omega)) (fun _ => b182_109 (an_i (by omega) (by omega) ?_)))
          rw [w32_n (by omega)]
          simp only [Int.toNat_natCast]
          exact ih (i + 1) (by omega) _ (HM_95 hg' (hS_y hc))
        · refine b182_89 (br_i (fun _ => an_i (by omega) (by omega) (b182_109 (an_i (by omega) (by omega) ?_))) (fun q => absurd v0 q))
          rw [w32_n (by omega)]
          simp only [Int.toNat_natCast]
          refine ih (i + 1) (by omega) _ (HM_95 hg' ?_)
          rw [hg'.2.2.2.2.1, st1_id]; exact hS_n hc
      refine b182_52 (br_i (fun q => absurd q (by rw [e30]; omega)) (fun _ => an_i (by omega) (by omega) ?_))
      simp only [Int.toNat_natCast]
      rw [e95, e104]
      refine br_i (fun q => b182_87 (N g _ hg (Or.inr ⟨by decide, fun x => by omega⟩))) (fun q => an_i (by omega) (by omega) (br_i (fun q2 => b182_87 (N g _ hg (Or.inr ⟨by decide, fun x => by omega⟩))) (fun q2 => m_tl (d := d) (HM_x hT hg) (by omega) (by rw [e9]; omega) (by rw [e104]; omega) (fun g' o => b182_84 ?_))))
      rw [HM_t hT hg]
      have t := TLD_r hO (hr := hr) (t := i) (by omega) (by omega)
      have tn := tq_n (t := TLD c hr i) (by omega)
      refine N g' _ (HM_rd hg o) ?_
      by_cases q3 : TLD c hr i < 0
      · exact Or.inr ⟨tn.1.mpr q3, fun x => by omega⟩
      · exact Or.inl ⟨⟨by omega, by omega, by omega⟩, tn.2 q3⟩
  exact L (c 26 2).toNat 0 (by omega) g hg
theorem flp_s {f w u : Nat → Int} {i : Nat} {v : Int} (H : flp f w u) (v0 : 0 ≤ v) (v2 : v ≤ 2) : flp (st1 f i v) (st1 w i v) (st1 u i v) := by
  intro j
  by_cases e : j = i
  · subst e
    right
    rw [st1_s, st1_s, st1_s]
    exact ⟨by omega, by omega, fun _ => rfl, rfl⟩
  · rw [st1_n e, st1_n e, st1_n e]; exact H j
set_option maxHeartbeats 4000000 in
theorem m_fls {B : Int} {hr n : Nat} (hT : TKR c k B) (H : ∀ g, HM c k g hr n (c 2 0).toNat → X (d + 20) 177 0 [some (P 69), some (I (hr : Int)), none] [] g (fun _ h' => X (d + 21) 182 215 [some (P 69), some (I (hr : Int)), some (I ((c 2 0).toNat : Int)), none, none, none, none] [] h' Q)) {g : HP} (hg : HM c k g hr n 0) : X (d + 21) 182 118 [some (P 69), some (I (hr : Int)), some (I 0), none, none, none, none] [] g Q := by
  have hO := hT.1
  obtain ⟨⟨⟨r56, r57, r58, r59, r60, r61, r62, r63, r64, r65⟩, ⟨r78, r79, r80⟩, ⟨r84, r85, r86, r87⟩, ⟨r90, r91, r92, r93, r94, r95, r96, r97⟩, ⟨r99, r101, r103, r104, r105⟩⟩, ⟨r76, r77, r114, r81, r88, r66, r67⟩, -, r120, r122⟩ := id hO
  have L : ∀ m i : Nat, i + m = (c 2 0).toNat → ∀ g, HM c k g hr n i → X (d + 21) 182 118 [some (P 69), some (I (hr : Int)), some (I (i : Int)), none, none, none, none] [] g Q := by
    intro m
    induction m with
    | zero =>
      intro i hi g hg
      have e := (HM_cnt hT hg).1
      have ei : i = (c 2 0).toNat := by omega
      subst ei
      exact b182_118 (br_i (fun _ => H g hg) (fun q => absurd (by rw [e]; omega) q))
    | succ m ih =>
      intro i hi g hg
      obtain ⟨e9, e30, e104⟩ := HM_cnt hT hg
      have e75 : g 75 i = c 8 i := by rw [hg.2.2.2.2.2.1, hF_i (Nat.le_refl _)]
      have tr := TX_r r120 (show 4 + i < 12 by omega)
      have fl := r81 i
      have ow := r122 i (by omega)
      have N : ∀ (g' : HP) (v : Int), HM c k g' hr n i → (((¬ c 8 i = 3 ∧ 0 < c 40 (4 + i) ∧ 0 ≤ TLD c hr (4 + i)) ∧ v = TLD c hr (4 + i) ∧ v ≤ 2) ∨ (v < 0 ∧ ¬ (¬ c 8 i = 3 ∧ 0 < c 40 (4 + i) ∧ 0 ≤ TLD c hr (4 + i)))) → X (d + 21) 182 163 [some (P 69), some (I (hr : Int)), some (I (i : Int)), none, none, none, none] [I v] g' Q := by
        intro g' v hg' hv
        rcases hv with ⟨hc, ev, ev2⟩ | ⟨v0, hc⟩
        · subst ev
          refine b182_163 (br_i (fun q => absurd q (by omega)) (fun _ => b182_183 (an_i (by omega) (by omega) (br_i (fun q => absurd q (by omega)) (fun _ => b182_203 (an_i (by omega) (by omega) ?_))))))
          rw [w32_n (by omega)]
          simp only [Int.toNat_natCast]
          refine ih (i + 1) (by omega) _ ⟨fun q h1 h2 h3 h4 h5 => by rw [up_p h5, up_p h4]; exact hg'.1 q h1 h2 h3 h4 h5, ?_, ?_, ?_, ?_, ?_, ?_⟩
          · rw [up_p (by decide), up_p (by decide)]; exact hg'.2.1
          · rw [up_p (by decide), up_p (by decide)]; exact hg'.2.2.1
          · rw [up_p (by decide), up_p (by decide)]; exact hg'.2.2.2.1
          · rw [up_p (by decide), up_p (by decide)]; exact hg'.2.2.2.2.1
          · rw [up_p (by decide), up_st, hg'.2.2.2.2.2.1]; exact hF_y hc
          · rw [up_st, up_p (by decide), ← hF_y hc, ← hF_y hc]; exact ⟨flp_s hg'.2.2.2.2.2.2.1 hc.2.2 ev2, fun p hp => by rw [st1_n (fun e => by subst e; have := ow hc.2.1; omega)]; exact hg'.2.2.2.2.2.2.2 p hp⟩
        · refine b182_163 (br_i (fun _ => an_i (by omega) (by omega) (b182_183 (an_i (by omega) (by omega) (br_i (fun _ => an_i (by omega) (by omega) (b182_203 (an_i (by omega) (by omega) ?_))) (fun q => absurd v0 q))))) (fun q => absurd v0 q))
          rw [w32_n (by omega)]
          simp only [Int.toNat_natCast]
          refine ih (i + 1) (by omega) _ ⟨fun q h1 h2 h3 h4 h5 => by rw [up_p h5, up_p h4]; exact hg'.1 q h1 h2 h3 h4 h5, ?_, ?_, ?_, ?_, ?_, ?_⟩
          · rw [up_p (by decide), up_p (by decide)]; exact hg'.2.1
          · rw [up_p (by decide), up_p (by decide)]; exact hg'.2.2.1
          · rw [up_p (by decide), up_p (by decide)]; exact hg'.2.2.2.1
          · rw [up_p (by decide), up_p (by decide)]; exact hg'.2.2.2.2.1
          · rw [up_p (by decide), up_st, st1_id, hg'.2.2.2.2.2.1]; exact hF_n hc
          · rw [up_st, up_p (by decide), st1_id, ← hF_n hc, ← hF_n hc]; exact hg'.2.2.2.2.2.2
      have N9 : ¬ (¬ c 8 i = 3 ∧ 0 < c 40 (4 + i) ∧ 0 ≤ TLD c hr (4 + i)) → X (d + 21) 182 161 [some (P 69), some (I (hr : Int)), some (I (i : Int)), none, none, none, none] [] g Q := fun hc => b182_161 (N g _ hg (Or.inr ⟨by decide, hc⟩))
      refine b182_118 (br_i (fun q => absurd q (by rw [e9]; omega)) (fun _ => an_i (by omega) (by omega) ?_))
      simp only [Int.toNat_natCast]
      rw [e75]
      refine z134 (br_i (fun q => b182_137 (br_i (fun _ => N9 (fun x => by omega)) (fun x => absurd rfl x))) (fun q => br_i (fun q2 => b182_137 (br_i (fun _ => N9 (fun x => by omega)) (fun x => absurd rfl x))) (fun q2 => b182_137 (br_i (fun x => absurd x (by decide)) (fun _ => ?_)))))
      rw [w4p (by omega), e104]
      simp only [Int.toNat_natCast]
      refine an_i (by omega) (by omega) (br_i (fun q3 => N9 (fun x => by omega)) (fun q3 => m_tl (d := d) (HM_x hT hg) (by omega) (by rw [e9]; omega) (by rw [e104]; omega) (fun g' o => b182_158 ?_)))
      rw [HM_t hT hg]
      have t := TLD_r hO (hr := hr) (t := 4 + i) (by omega) (by omega)
      have mt : mostT (4 + i) = 2 := by unfold mostT; rw [if_neg (by omega)]
      rw [mt] at t
      have tn := tq_n (t := TLD c hr (4 + i)) (by omega)
      refine N g' _ (HM_rd hg o) ?_
      by_cases q4 : TLD c hr (4 + i) < 0
      · exact Or.inr ⟨tn.1.mpr q4, fun x => by omega⟩
      · rw [tn.2 q4]
        exact Or.inl ⟨⟨by omega, by omega, by omega⟩, rfl, by omega⟩
  exact L (c 2 0).toNat 0 (by omega) g hg
end P69
