/-! boxes placed best: the model's call; the pair -/
section P85
variable {d : Nat} {h g k k0 : HP} {Q : PV → HP → Prop} {v1 v2 v3 v4 : Int}
def ansM (M : Nat) (v4 v : Int) (r : Nat) : Int := if v = -9 then -9 else if v4 = 0 then v else if (M : Int) < v4 then -9 else ((dg M r (v4.toNat - 1) : Nat) : Int)
set_option maxHeartbeats 4000000 in
theorem m_plRows {hr bs ps M : Nat} (hR : R h) (hb : bs < 256) (hbn : ∀ j, bs.testBit j = true → (j : Int) < h 22 2) (hp : ps < 256) (hpn : ∀ j, ps.testBit j = true → (j : Int) < h 2 0) (eM : rnk bs 8 = M) (hM : M ≤ 3) (h40 : 0 ≤ v4) (h44 : v4 < 4) (a0 : SCR h k0) (hS : SMP h k0 hr (h 23)) (H : ∀ k v r, BPN (hot h hr bs M) (vld ps M) (8 ^ M) v r → SCR h k → Q (I (ansM M v4 v r)) k) : X (d + 7) 210 76 [some (P 69), some (I v1), some (I (bs : Int)), some (I (ps : Int)), some (I v4), none] [] k0 Q := by
  have c8 : 0 ≤ h 22 2 ∧ h 22 2 ≤ 8 := (R_cnt hR).2.2.2.2.1
  have e26 : ∀ g, SCR h g → g 69 26 = h 22 2 := fun g a => by rw [a.2 26 rfl]; exact (R_cnt hR).1.2.2.2.1
  have rN : rnk bs (h 22 2).toNat = M := by
    have : ∀ n, rnk bs ((h 22 2).toNat + n) = rnk bs (h 22 2).toNat := by
      intro n
      induction n with
      | zero => rfl
      | succ n ih =>
        have x := rnk_f (bs := bs) (j := (h 22 2).toNat + n) (fun t => by have := hbn _ t; omega)
        rw [show (h 22 2).toNat + (n + 1) = (h 22 2).toNat + n + 1 by omega, x, ih]
    have x := this (8 - (h 22 2).toNat)
    rw [show (h 22 2).toNat + (8 - (h 22 2).toNat) = 8 by omega] at x
    omega
  have L : ∀ m i : Nat, i + m = (h 22 2).toNat → ∀ g : HP, (∀ q, q ≠ 69 → q ≠ 120 → g q = k0 q) → (∀ x, x ≠ 87 → g 69 x = k0 69 x) → g 69 87 = ((rnk bs i : Nat) : Int) → (∀ j : Nat, j < i → bs.testBit j = true → g 120 (rnk bs j) = (j : Int)) → X (d + 7) 210 84 [some (P 69), some (I v1), some (I (bs : Int)), some (I (ps : Int)), some (I v4), some (I (i : Int))] [] g Q := by
    intro m
    induction m with
    | zero =>
      intro i hi g f1 f2 g87 g120
      have ei : i = (h 22 2).toNat := by omega
      subst ei
      rw [rN] at g87
      have sg : SCR h g := ⟨fun q hq => by rw [f1 q (by omega) (by omega)]; exact a0.1 q hq, fun x hx => by
        have : x ≠ 87 := fun e => by subst e; cases hx
        rw [f2 x this]; exact a0.2 x hx⟩
      have S : SMP h g hr (h 23) := SMP_f (fun q hq => f1 q (by omega) (by omega)) (fun x hx => f2 x (by omega)) hS
      have GO : X (d + 6) 209 0 [some (P 69), some (I 0), some (I (ps : Int)), none, none] [] (up2 g 69 90 (-9)) (fun _ h' => X (d + 7) 210 142 [some (P 69), some (I v1), some (I (bs : Int)), some (I (ps : Int)), some (I v4), some (I (((h 22 2).toNat : Nat) : Int))] [] h' Q) := by
        have T := m_places (d := d + (3 - M)) (hr := hr) hR hb hbn hp hpn eM hM M 0 (by omega) 0 ps (up2 g 69 90 (-9)) (fun _ h' => X (d + 7) 210 142 [some (P 69), some (I v1), some (I (bs : Int)), some (I (ps : Int)), some (I v4), some (I (((h 22 2).toNat : Nat) : Int))] [] h' Q) hp ⟨fun i hi => absurd hi (by omega), fun i j _ hj => absurd hj (by omega)⟩ (fun x => ⟨fun e => ⟨e, fun i hi => absurd hi (by omega)⟩, fun e => e.1⟩) ⟨SCR_m sg rfl, ⟨h 23, SMP_f (fun q hq => up_p (by omega)) (fun x hx => up_i (by omega)) S, fun _ _ => rfl⟩, ⟨by rw [up_i (by decide)]; exact g87, fun j hj jb => by rw [up_p (by decide)]; exact g120 j (by have := hbn j jb; omega) jb⟩, 0, ?_, fun q => absurd up_s q⟩ (fun i hi => absurd hi (by omega)) (fun k hP _ => ?_)
        · rw [show d + (3 - M) + M + 3 = d + 6 by omega] at T
          exact T
        · rw [up_s]
          exact Or.inl ⟨rfl, fun s hs => absurd hs (by rw [Nat.zero_mul]; omega)⟩
        · obtain ⟨s1, -, ⟨k87, -⟩, r, hB, h122⟩ := hP
          rw [Nat.zero_add, Nat.one_mul] at hB
          have HN := H k _ r hB s1
          have b9 := BPN_9 hB
          unfold ansM at HN
          refine b210_142 (br_i (fun q => ?_) (fun q => br_i (fun q4 => br_i (fun qM => ?_) (fun qM => ?_)) (fun q4 => ?_)))
          · have e : k 69 90 = -9 := by omega
            rw [if_pos e] at HN
            rw [e]; exact HN
          · rw [if_neg (by omega), if_neg q4, if_pos (by rw [k87] at qM; exact qM)] at HN
            exact HN
          · rw [k87] at qM
            rw [if_neg (by omega), if_neg q4, if_neg qM] at HN
            have ew : w32 (v4 - 1) = ((v4.toNat - 1 : Nat) : Int) := by rw [w32_of (by omega) (by omega)]; omega
            rw [ew]
            simp only [Int.toNat_natCast]
            rw [h122 (by omega) (v4.toNat - 1) (by omega)]
            exact an_i (by omega) (by omega) HN
          · rw [if_neg (by omega), if_pos (Classical.not_not.mp q4)] at HN
            exact HN
      exact b210_84 (br_i (fun _ => GO) (fun q => absurd (by rw [e26 g sg]; omega) q))
    | succ m ih =>
      intro i hi g f1 f2 g87 g120
      have g26 : g 69 26 = h 22 2 := by rw [f2 26 (by decide)]; exact e26 k0 a0
      have rl : rnk bs (i + 1) ≤ rnk bs (h 22 2).toNat := rnk_l (by omega)
      refine b210_84 (br_i (fun q => absurd q (by rw [g26]; omega)) (fun _ => ?_))
      rw [bit1F (by omega) (by omega)]
      have bF : bitF bs i = 1 ↔ bs.testBit i = true := by
        unfold bitF
        by_cases q : bs.testBit i = true
        · rw [if_pos q]; exact ⟨fun _ => q, fun _ => rfl⟩
        · rw [if_neg q]; exact ⟨fun x => absurd x (by decide), fun x => absurd x q⟩
      refine br_i (fun q => b210_124 ?_) (fun q => ?_)
      · have tb : ¬ bs.testBit i = true := fun x => q (bF.mpr x)
        rw [w32_n (by omega)]
        refine ih (i + 1) (by omega) g f1 f2 (by rw [rnk_f tb]; exact g87) (fun j hj jb => ?_)
        by_cases ej : j = i
        · subst ej; exact absurd jb tb
        · exact g120 j (by omega) jb
      · have tb := bF.mp (Classical.not_not.mp q)
        have x2 := rnk_t tb
        rw [g87]
        simp only [Int.toNat_natCast]
        refine an_i (by omega) (by omega) (b210_124 ?_)
        rw [w32_n (by omega), w32_n (by omega)]
        refine ih (i + 1) (by omega) _ (fun q h1 h2 => by rw [up_p h1, up_p h2]; exact f1 q h1 h2) (fun x hx => by rw [up_i hx, up_p (by decide)]; exact f2 x hx) (by rw [up_s, x2]) (fun j hj jb => ?_)
        rw [up_p (by decide), up_st]
        by_cases ej : j = i
        · subst ej; exact st1_s
        · have : rnk bs j ≠ rnk bs i := fun e => ej (rnk_i jb tb e)
          rw [st1_n this]; exact g120 j (by omega) jb
  refine b210_76 (L (h 22 2).toNat 0 (by omega) _ (fun q h1 h2 => up_p h1) (fun x hx => up_i hx) up_s (fun j hj => absurd hj (by omega)))
set_option maxHeartbeats 4000000 in
theorem m_place {b0 : HP} (e26 : k0 69 26 = b0 22 2) (e9 : k0 69 9 = b0 2 0) (H1 : PA b0 v1 v2 v3 → (0 ≤ v4 ∧ v4 < 4) → ∃ bs ps M : Nat, v2 = (bs : Int) ∧ v3 = (ps : Int) ∧ bs < 256 ∧ ps < 256 ∧ rnk bs 8 = M ∧ (M ≤ 3 → R h ∧ SCR h k0 ∧ (∀ j, bs.testBit j = true → (j : Int) < h 22 2) ∧ (∀ j, ps.testBit j = true → (j : Int) < h 2 0) ∧ ∀ k v r, BPN (hot h v1.toNat bs M) (vld ps M) (8 ^ M) v r → SCR h k → Q (I (ansM M v4 v r)) k) ∧ (¬ M ≤ 3 → Q (I (-6)) (rfM k0 (-6)))) (H2 : PA b0 v1 v2 v3 → ¬ (0 ≤ v4 ∧ v4 < 4) → Q (I (-2)) (rfM k0 (-2))) (H3 : ¬ PA b0 v1 v2 v3 → Q (I (-1)) (rfM k0 (-1))) : X (d + 7) 210 0 [some (P 69), some (I v1), some (I v2), some (I v3), some (I v4), none] [] k0 Q := by
  have E3 : ¬ PA b0 v1 v2 v3 → X (d + 7) 210 33 [some (P 69), some (I v1), some (I v2), some (I v3), some (I v4), none] [] k0 Q := fun hn => b210_33 (z135 ⟨by decide, by decide, b210_38 (H3 hn)⟩)
  by_cases a1 : 0 ≤ v1 ∧ v1 < 12
  · refine b210_0 (z137 (br_i (fun q => absurd q (by omega)) (fun _ => br_i (fun q => absurd q (by omega)) (fun _ => b210_4 (br_i (fun x => absurd x (by decide)) (fun _ => ?_))))))
    rw [e26, e9]
    refine br_i (fun q => E3 (fun x => by have := x.2.1.1; omega)) (fun q => br_i (fun q2 => E3 (fun x => q2 x.2.1.2)) (fun q2 => br_i (fun q3 => E3 (fun x => by have := x.2.2.1; omega)) (fun q3 => br_i (fun q4 => ?_) (fun q4 => E3 (fun x => q4 x.2.2.2)))))
    have pa : PA b0 v1 v2 v3 := ⟨a1, ⟨by omega, Classical.not_not.mp q2⟩, ⟨by omega, q4⟩⟩
    by_cases a4 : 0 ≤ v4 ∧ v4 < 4
    · obtain ⟨bs, ps, M, x2, x3, b2, b3, eM, HY, HN⟩ := H1 pa a4
      subst x2 x3
      refine z134 (br_i (fun q => absurd q (by omega)) (fun _ => br_i (fun q => absurd q (by omega)) (fun _ => b210_46 (br_i (fun _ => m_cnt (by omega) (b210_60 ?_)) (fun x => absurd (by decide) x)))))
      rw [rnk_c b2, eM]
      refine br_i (fun qM => ?_) (fun qM => z135 ⟨by decide, by decide, b210_70 (HN (by omega))⟩)
      obtain ⟨hR, a0, t2, t3, HB⟩ := HY (by omega)
      refine m_layT hR (SCT_of a0) (a0.1 89 (by decide)) a1.1 a1.2 (fun g hL => ?_)
      exact m_plRows (d := d) hR b2 t2 b3 t3 eM (by omega) a4.1 a4.2 (SCR_t a0 (LAY_r hL)) (LAY_sT hR (SCT_of a0) (a0.1 89 (by decide)) hL) HB
    · have F := H2 pa a4
      exact z134 (br_i (fun q => b210_46 (br_i (fun x => absurd rfl x) (fun _ => z135 ⟨by decide, by decide, b210_55 F⟩))) (fun q => br_i (fun q2 => b210_46 (br_i (fun x => absurd rfl x) (fun _ => z135 ⟨by decide, by decide, b210_55 F⟩))) (fun q2 => absurd ⟨by omega, by omega⟩ a4)))
  · have F := E3 (fun x => a1 x.1)
    exact b210_0 (z137 (br_i (fun q => b210_4 (br_i (fun _ => F) (fun x => absurd rfl x))) (fun q => br_i (fun q2 => b210_4 (br_i (fun _ => F) (fun x => absurd rfl x))) (fun q2 => absurd ⟨by omega, by omega⟩ a1))))
theorem p_place (hR : R h) (i2 : i32 v2) (i3 : i32 v3) : X (d + 7) 110 0 [some (P 0), some (I v1), some (I v2), some (I v3), some (I v4), none, none, none, none, none] [] h (fun r h1 => X (d + 7) 210 0 [some (P 69), some (I v1), some (I v2), some (I v3), some (I v4), none] [] h1 (fun r' h2 => EQA r r' h2)) := by
  obtain ⟨⟨c1, -, -, c4, -⟩, -⟩ := R_cnt hR
  have rf : ∀ a : Int, rfC h a 69 = h 69 := fun a => rfC_p (by decide)
  refine c_place hR i2 i3 (fun bs ps M pa a4 e2 e3 b2 b3 t2 t3 eM => ⟨fun hM h4 g v r hB sg mg => ?_, fun hM h4 => ?_, fun hM => ?_⟩) (fun pa hn => m_place (h := h) (b0 := h) (by rw [rf]; exact c4) (by rw [rf]; exact c1) (fun _ x => absurd x hn) (fun _ _ => EQA_rf hR) (fun x => absurd pa x)) (fun hn => m_place (h := h) (b0 := h) (by rw [rf]; exact c4) (by rw [rf]; exact c1) (fun x => absurd x hn) (fun x => absurd x hn) (fun _ => EQA_rf hR))
  · refine m_place (h := h) (b0 := h) (by rw [mg 69 (by decide)]; exact c4) (by rw [mg 69 (by decide)]; exact c1) (fun _ _ => ⟨bs, ps, M, e2, e3, b2, b3, eM, fun _ => ⟨hR, sg, t2, t3, fun k v' r' hB' sk => ⟨?_, R_scr sk hR⟩⟩, fun x => absurd hM x⟩) (fun _ x => absurd a4 x) (fun x => absurd pa x)
    obtain ⟨u1, u2⟩ := BPN_u hB hB'
    subst u1
    unfold ansC ansM
    by_cases q4 : v4 = 0
    · rw [if_pos q4]
      by_cases q9 : v = -9
      · rw [if_pos q9, q9]
      · rw [if_neg q9, if_pos q4]
    · rw [if_neg q4]
      by_cases q9 : v = -9
      · rw [if_pos q9, if_pos q9, q9]
      · rw [if_neg q9, if_neg q9, if_neg q4, if_neg (by omega), u2 q9]
  · refine m_place (h := h) (b0 := h) c4 c1 (fun _ _ => ⟨bs, ps, M, e2, e3, b2, b3, eM, fun _ => ⟨hR, SCR_r h, t2, t3, fun k v' r' hB' sk => ⟨?_, R_scr sk hR⟩⟩, fun x => absurd hM x⟩) (fun _ x => absurd a4 x) (fun x => absurd pa x)
    unfold ansM
    by_cases q9 : v' = -9
    · rw [if_pos q9]
    · rw [if_neg q9, if_neg (by omega), if_pos (by omega)]
  · exact m_place (h := h) (b0 := h) (by rw [rf]; exact c4) (by rw [rf]; exact c1) (fun _ _ => ⟨bs, ps, M, e2, e3, b2, b3, eM, fun x => absurd x hM, fun _ => EQA_rf hR⟩) (fun _ x => absurd a4 x) (fun x => absurd pa x)
end P85
