/-! hours of work: the class -/
section P80
variable {d : Nat} {h g k S : HP} {Q : PV → HP → Prop} {b : Nat}
theorem c_may {s t : Nat} (ht : t < 13) (hs : s < 4096) (H1 : (g 52 6 < cnt (s ||| FU t) ∨ (cnt (s ||| FU t) = g 52 6 ∧ ((s ||| FU t : Nat) : Int) < g 52 5)) → Q (I 1) g) (H0 : ¬ g 52 6 < cnt (s ||| FU t) → ¬ (cnt (s ||| FU t) = g 52 6 ∧ ((s ||| FU t : Nat) : Int) < g 52 5) → Q (I 0) g) : X (d + 1) 55 0 [some (P 52), some (I (t : Int)), some (I (s : Int)), none, none] [] g Q := by
  have f := or_FU hs ht
  refine b55_0 ?_
  rw [f.1]
  refine z222c f.2 (b55_14 (br_i (fun q => H1 (Or.inl q)) (fun q => br_i (fun q2 => H0 q (fun x => q2 x.1)) (fun q2 => br_i (fun q3 => H0 q (fun x => by omega)) (fun q3 => H1 (Or.inr ⟨Classical.not_not.mp q2, by omega⟩))))))
/-- the class's warmth of a plate -/
theorem c_wp {p : Nat} (hp : p < 8) (x3 : 1 ≤ g 3 p ∧ g 3 p ≤ 99) (x7 : 0 ≤ g 7 p ∧ g 7 p ≤ 2000000000) (H : Q (I (wrm g p)) g) : X (d + 1) 21 0 [some (P 2), some (I (p : Int)), none] [] g Q := by
  have y := tdvB x7.1 x7.2 (show 0 ≤ g 3 p by omega)
  unfold wrm at H
  refine z21 (v1 := (p : Int)) (an_i (by omega) (by omega) ?_)
  simp only [Int.toNat_natCast]
  rw [w32_of (by omega) (by omega)]
  refine br_i (fun _ => an_i (by omega) (by omega) ⟨by omega, br_i (fun q => ?_) (fun q => ?_)⟩) (fun q => absurd x3.1 q)
  · rw [if_pos q] at H; exact H
  · rw [if_neg q] at H; exact H
/-- the class on trial with hours to t of set s gone, their states kept -/
def CW (h : HP) (b : Nat) (g : HP) (s t : Nat) : Prop := (∀ q, ¬ (52 ≤ q ∧ q ≤ 56) → q ≠ 7 → q ≠ 8 → q ≠ 9 → q ≠ 29 → q ≠ 25 → g q = h q) ∧ (∀ j, j ≠ b → g 25 j = h 25 j) ∧ (SOK g ∧ STB h g) ∧ ∀ e, e ≤ t → KR g e (VW h b s e)
theorem CW_52 {s t i : Nat} {v : Int} (a : CW h b g s t) : CW h b (up2 g 52 i v) s t := by
  refine ⟨fun q h1 h2 h3 h4 h5 h6 => by rw [up_p (by omega)]; exact a.1 q h1 h2 h3 h4 h5 h6, ?_, ⟨?_, ?_⟩, fun e he => ?_⟩
  · rw [up_p (by decide)]; exact a.2.1
  · unfold SOK; rw [up_p (by decide), up_p (by decide), up_p (by decide)]; exact a.2.2.1.1
  · unfold STB; rw [up_p (by decide), up_p (by decide), up_p (by decide), up_p (by decide)]; exact a.2.2.1.2
  · exact KR_56 (up_p (by decide)) (a.2.2.2 e he)
set_option maxHeartbeats 4000000 in
theorem c_choose (hR : R h) (hb : (b : Int) < h 22 2) : ∀ m t : Nat, t + m = 12 → ∀ s : Nat, s < 2 ^ t → ∀ (P' : Nat → Prop) (g : HP) (Q : PV → HP → Prop), CW h b g s t → (∀ e, e < t → okH h b s e) → BI (okW h b) P' (g 52 5) (g 52 6) → (∀ g', CW h b g' s t → BI (okW h b) (fun r => P' r ∨ PRE r t s) (g' 52 5) (g' 52 6) → Q (I 0) g') → X (d + m + 5) 54 0 [some (P 52), some (I (b : Int)), some (I (t : Int)), some (I (s : Int)), none, none] [] g Q := by
  have hO := OKC_of hR
  have F : (0 ≤ h 0 8 ∧ h 0 8 ≤ 9999) ∧ (0 ≤ h 23 b ∧ h 23 b ≤ 7 ∧ h 23 b < h 2 0) ∧ h 22 2 ≤ 8 ∧ h 2 0 ≤ 8 := by
    obtain ⟨⟨r1, r2, r3, r4, r5, r6, r7, r8⟩, ⟨r9, r10, r11, r12, r13⟩, ⟨r14, r15, r16, r17, r18, r19, r20⟩, ⟨r21, r22, r23, r24, r25, r26⟩, ⟨r27, r28, r29, r30, r31⟩, ⟨r32, r33⟩, ⟨r34, r35, r36, r37, r38, r39, r40, r41, r42, r43, r44, r45⟩, ⟨r46, r47, r48⟩, ⟨r49, r50, r51, r52, r53, r54, r55⟩, ⟨r56, r57, r58, r59, r60, r61, r62, r63, r64, r65⟩, ⟨r66, r67, r68, r69, r70, r71, r72, r73, r74, r75⟩, ⟨r76, r77, r78, r79, r80, r81, r82, r83⟩, ⟨r84, r85, r86, r87, r88, r89⟩, ⟨r90, r91, r92, r93, r94, r95, r96, r97, r98⟩, ⟨r99, r100, r101, r102, r103, r104, r105, r106⟩, ⟨r107, r108, r109, r110, r111, r112, r113⟩, ⟨r114, r115, r116, r117, r118, r119, r120, r121, r122, r123⟩⟩ := id hR
    have x := r99 b
    have y := r100 b hb
    exact ⟨⟨r68, r69⟩, ⟨x.1, x.2, y⟩, r63, r57⟩
  obtain ⟨t01, ⟨p0, p7, pn⟩, b8, n8⟩ := F
  obtain ⟨p, ep⟩ := Int.eq_ofNat_of_zero_le p0
  have ep' : h 23 b = (p : Int) := ep
  intro m
  induction m with
  | zero =>
    intro t ht s hs P' g Q hg hk hB H
    have et : t = 12 := by omega
    subst et
    have e12 : (2 : Nat) ^ 12 = 4096 := by decide
    have eF : s ||| FU 12 = s := by
      have : FU 12 = 0 := by decide
      rw [this, Nat.or_zero]
    refine b54_0 (c_may (d := d + 0 + 3) (t := 12) (by decide) (by omega) (fun q => b54_6 (br_i (fun _ => br_i (fun x => absurd x (by omega)) (fun _ => z222c (by omega) (b54_26 (H _ (CW_52 (CW_52 hg)) ?_)))) (fun x => absurd (by decide) x))) (fun q q2 => b54_6 (br_i (fun x => absurd rfl x) (fun _ => H g hg ?_))))
    · rw [eF] at q
      rw [up_i (by decide), up_s, up_s]
      refine BI_new (by omega) (fun t ht => hk t ht) hB q (fun r hr hp => ?_)
      rcases hp with x | x
      · exact Or.inl x
      · exact Or.inr (set_e hr (by omega) x)
    · refine BI_pr (F := s ||| FU 12) (by rw [eF]; omega) hB q q2 (fun r hr hp => ?_)
      rcases hp with x | x
      · exact Or.inl x
      · exact Or.inr (PRE_F (by decide) x)
  | succ m ih =>
    intro t ht s hs P' g Q hg hk hB H
    rw [show d + (m + 1) + 5 = d + m + 5 + 1 from by omega]
    have t11 : t < 12 := by omega
    have p1 : 2 ^ t ≤ 2 ^ 11 := Nat.pow_le_pow_right (by decide) (by omega)
    have e11 : (2 : Nat) ^ 11 = 2048 := by decide
    have s4 : s < 4096 := by omega
    -- one try: the box works in this hour, or not
    have ST : ∀ (o : Nat) (o1 : o ≤ 1) (g : HP) (P1 : Nat → Prop), CW h b g s t → BI (okW h b) P1 (g 52 5) (g 52 6) → (∀ g', CW h b g' s t → BI (okW h b) (fun r => P1 r ∨ (PRE r t s ∧ bitF r t = (o : Int))) (g' 52 5) (g' 52 6) → X (d + m + 5 + 1) 54 128 [some (P 52), some (I (b : Int)), some (I (t : Int)), some (I (s : Int)), some (I (p : Int)), some (I (o : Int))] [] g' Q) → X (d + m + 5 + 1) 54 47 [some (P 52), some (I (b : Int)), some (I (t : Int)), some (I (s : Int)), some (I (p : Int)), some (I (o : Int))] [] g Q := by
      intro o o1 g P1 hg hB K
      have hOt := VW_O (b := b) (s := s) hO (by omega) t
      have hSt := VW_s (b := b) (s := s) hO (by omega) t
      obtain ⟨ob1, ob2, ob3⟩ := or_bit (b := s) (t := t) (o := o) t11 hs o1
      have pre : PRE (s ||| o * 2 ^ t) t s ∧ bitF (s ||| o * 2 ^ t) t = (o : Int) := (ob3 _).mp (fun k hk => rfl)
      have hOc := OKC_25 (b := b) (v := (o : Int)) hOt (by omega) (by omega)
      have eV : VW h b (s ||| o * 2 ^ t) (t + 1) = nx (up2 (VW h b s t) 25 b (o : Int)) t := by
        show nx (up2 (VW h b (s ||| o * 2 ^ t) t) 25 b (bitF (s ||| o * 2 ^ t) t)) t = _
        rw [VW_c pre.1, pre.2]
      refine b54_47 (br_i (fun q => absurd q (by omega)) (fun _ => c_rsto (d := d + m + 4) (r := t) (S := VW h b s t) (by omega) hg.2.2.1.1 (SOK_O hOt) (STB_c hg.2.2.1.2 hSt) (hg.2.2.2 t (Nat.le_refl _)) (fun g1 f1 e7 e8 e9 e29 => b54_57 (an_i (by omega) (by omega) ?_))))
      simp only [Int.toNat_natCast]
      have ag : AG (up2 g1 25 b (o : Int)) (up2 (VW h b s t) 25 b (o : Int)) := by
        intro q q1 q2 q3 q4
        by_cases c25 : q = 25
        · subst c25
          rw [up_st, up_st]
          funext j
          by_cases ej : j = b
          · subst ej; rw [st1_s, st1_s]
          · rw [st1_n ej, st1_n ej, f1 25 (by decide) (by decide) (by decide) (by decide), hg.2.1 j ej, VW_25 ej]
        rw [up_p c25, up_p c25]
        by_cases c7 : q = 7
        · subst c7; exact e7
        by_cases c8 : q = 8
        · subst c8; exact e8
        by_cases c9 : q = 9
        · subst c9; exact e9
        by_cases c29 : q = 29
        · subst c29; exact e29
        rw [f1 q c7 c8 c9 c29, hg.1 q q3 c7 c8 c9 c29 c25, VW_f (q := q) (by omega) c25]
      refine c_passA (d := d + m + 1) ag (by omega) hOc (by omega) (fun g2 a2 _ f2 b2 => b54_76 ?_)
      have eP : ∀ q, ¬ (52 ≤ q ∧ q ≤ 56) → q ≠ 7 → q ≠ 8 → q ≠ 9 → q ≠ 29 → q ≠ 25 → g2 q = h q := fun q h1 h2 h3 h4 h5 h6 => by
        rw [f2 q (by omega) h2 h3 h4 h5, up_p h6, f1 q h2 h3 h4 h5]; exact hg.1 q h1 h2 h3 h4 h5 h6
      have e56 : g2 56 = g 56 := by
        rw [f2 56 (by decide) (by decide) (by decide) (by decide) (by decide), up_p (by decide), f1 56 (by decide) (by decide) (by decide) (by decide)]
      have e52 : g2 52 5 = g 52 5 ∧ g2 52 6 = g 52 6 := by
        rw [b2.1, b2.2, up_p (by decide), f1 52 (by decide) (by decide) (by decide) (by decide)]
        exact ⟨rfl, rfl⟩
      have hOn : OKC (nx (up2 (VW h b s t) 25 b (o : Int)) t) (2000000 + 40000 * h 0 8 + 40000 * t + 40000) := OKC_n hOc (by omega)
      have hSn : STB h (nx (up2 (VW h b s t) 25 b (o : Int)) t) := STB_n hOc (STB_25 hSt)
      have hg2 : CW h b g2 s t := by
        refine ⟨eP, fun j hj => ?_, ⟨SOK_a a2 (SOK_O hOn), STB_a hSn a2⟩, fun e he => KR_56 e56 (hg.2.2.2 e he)⟩
        rw [f2 25 (by decide) (by decide) (by decide) (by decide) (by decide), up_i hj, f1 25 (by decide) (by decide) (by decide) (by decide)]
        exact hg.2.1 j hj
      have hO2 : OKC g2 (2000000 + 40000 * h 0 8 + 40000 * t + 40000) := OKC_a (AG_y a2) hOn
      have z2 : g2 2 = h 2 := eP 2 (by decide) (by decide) (by decide) (by decide) (by decide) (by decide)
      have x3 := hO2.2.1.1 p (by rw [z2]; omega)
      have x7 := hO2.2.1.2.2.1 p
      refine c_wp (by omega) x3 (by omega) (b54_88 (an_i (by omega) (by omega) ?_))
      simp only [Int.toNat_natCast]
      have ew : wrm g2 p = wrm (VW h b (s ||| o * 2 ^ t) (t + 1)) p := by rw [eV, wrm_a a2]
      have e11' : g2 11 = h 11 := eP 11 (by decide) (by decide) (by decide) (by decide) (by decide) (by decide)
      have eok : okH h b (s ||| o * 2 ^ t) t ↔ wrm g2 p ≤ g2 11 p := by
        unfold okH
        rw [ep', Int.toNat_natCast, ew, e11']
      refine br_i (fun q => ?_) (fun q => ?_)
      · rw [w32_n (by omega)]
        refine c_keep (r := t + 1) (by omega) hg2.2.2.1.1 (fun g3 f3 k3 o3 => b54_114 ?_)
        rw [ob1, w32_n (by omega)]
        have hg3 : CW h b g3 (s ||| o * 2 ^ t) (t + 1) := by
          refine ⟨fun q h1 h2 h3 h4 h5 h6 => by rw [f3 q (by omega)]; exact hg2.1 q h1 h2 h3 h4 h5 h6, ?_, ⟨?_, ?_⟩, fun e he => ?_⟩
          · rw [f3 25 (by decide)]; exact hg2.2.1
          · unfold SOK; rw [f3 29 (by decide), f3 8 (by decide), f3 9 (by decide)]; exact hg2.2.2.1.1
          · unfold STB; rw [f3 7 (by decide), f3 29 (by decide), f3 8 (by decide), f3 9 (by decide)]; exact hg2.2.2.1.2
          · by_cases ee : e = t + 1
            · subst ee
              rw [eV]
              exact KR_c (AG_q a2 (q := 7) (by decide)) (AG_q a2 (q := 8) (by decide)) (AG_q a2 (q := 29) (by decide)) k3
            · have x := hg2.2.2.2 e (by omega)
              rw [VW_c (t := e) (r := s) (fun k hk => pre.1 k (by omega))]
              refine ⟨fun j hj => ?_, ?_⟩
              · rw [o3 _ (by omega)]; exact x.1 j hj
              · rw [o3 _ (by omega)]; exact x.2
        refine ih (t + 1) (by omega) (s ||| o * 2 ^ t) ob2 P1 g3 _ hg3 (fun e he => ?_) ?_ (fun g4 h4 hB4 => K g4 ⟨h4.1, h4.2.1, h4.2.2.1, fun e he => ?_⟩ ?_)
        · by_cases ee : e = t
          · subst ee; exact eok.mpr q
          · exact (okH_c (fun k hk => pre.1 k (by omega))).mpr (hk e (by omega))
        · rw [f3 52 (by decide), e52.1, e52.2]; exact hB
        · have x := h4.2.2.2 e (by omega)
          rw [VW_c (t := e) (r := s) (fun k hk => pre.1 k (by omega))] at x
          exact x
        · refine BI_no hB4 (fun r hr hp => Or.inl ?_)
          rcases hp with x | x
          · exact Or.inl x
          · exact Or.inr ((ob3 r).mpr x)
      · refine K g2 hg2 ?_
        rw [e52.1, e52.2]
        refine BI_no hB (fun r hr hp => ?_)
        rcases hp with x | x
        · exact Or.inl x
        · right
          intro hw
          exact q (eok.mp ((okH_c ((ob3 r).mpr x)).mp (hw t t11)))
    refine b54_0 (c_may (d := d + m + 4) (t := t) (by omega) s4 (fun q => b54_6 (br_i (fun _ => br_i (fun _ => an_i (by omega) (by omega) ?_) (fun x => absurd (by omega) x)) (fun x => absurd (by decide) x))) (fun q q2 => b54_6 (br_i (fun x => absurd rfl x) (fun _ => H g hg ?_))))
    · simp only [Int.toNat_natCast]
      rw [hg.1 23 (by decide) (by decide) (by decide) (by decide) (by decide) (by decide), ep']
      refine ST 1 (by decide) g P' hg hB (fun g1 h1 hB1 => b54_128 ?_)
      refine ST 0 (by decide) g1 _ h1 hB1 (fun g2 h2 hB2 => b54_128 ?_)
      refine b54_47 (br_i (fun _ => H g2 h2 (BI_no hB2 (fun r hr hp => Or.inl ?_))) (fun x => absurd (by decide) x))
      rcases hp with x | x
      · exact Or.inl (Or.inl x)
      · have br := bitF_r r t
        by_cases e1 : bitF r t = 1
        · exact Or.inl (Or.inr ⟨x, e1⟩)
        · exact Or.inr ⟨x, by show bitF r t = ((0 : Nat) : Int); omega⟩
    · refine BI_pr (F := s ||| FU t) (or_FU s4 (by omega)).2 hB q q2 (fun r hr hp => ?_)
      rcases hp with x | x
      · exact Or.inl x
      · exact Or.inr (PRE_F (by omega) x)
set_option maxHeartbeats 4000000 in
theorem c_best (hR : R h) (hb : (b : Int) < h 22 2) (H : ∀ (g : HP) (v c : Int) (P' : Nat → Prop), BI (okW h b) P' v c → (∀ s, s < 4096 → P' s) → SCR h g → (∀ q, ¬ (52 ≤ q ∧ q ≤ 56) → g q = h q) → Q (I v) g) : X (d + 18) 53 0 [some (P 52), some (I (b : Int)), none] [] h Q := by
  have hO := OKC_of hR
  have F : 0 ≤ h 0 8 ∧ h 22 2 ≤ 8 := by
    obtain ⟨⟨r1, r2, r3, r4, r5, r6, r7, r8⟩, ⟨r9, r10, r11, r12, r13⟩, ⟨r14, r15, r16, r17, r18, r19, r20⟩, ⟨r21, r22, r23, r24, r25, r26⟩, ⟨r27, r28, r29, r30, r31⟩, ⟨r32, r33⟩, ⟨r34, r35, r36, r37, r38, r39, r40, r41, r42, r43, r44, r45⟩, ⟨r46, r47, r48⟩, ⟨r49, r50, r51, r52, r53, r54, r55⟩, ⟨r56, r57, r58, r59, r60, r61, r62, r63, r64, r65⟩, ⟨r66, r67, r68, r69, r70, r71, r72, r73, r74, r75⟩, ⟨r76, r77, r78, r79, r80, r81, r82, r83⟩, ⟨r84, r85, r86, r87, r88, r89⟩, ⟨r90, r91, r92, r93, r94, r95, r96, r97, r98⟩, ⟨r99, r100, r101, r102, r103, r104, r105, r106⟩, ⟨r107, r108, r109, r110, r111, r112, r113⟩, ⟨r114, r115, r116, r117, r118, r119, r120, r121, r122, r123⟩⟩ := id hR
    exact ⟨r68, r63⟩
  obtain ⟨t0, b8⟩ := F
  have sk : SOK (up2 (up2 h 52 5 (-9)) 52 6 (-1)) := by
    unfold SOK; rw [up_p (by decide), up_p (by decide), up_p (by decide), up_p (by decide), up_p (by decide), up_p (by decide)]; exact SOK_O hO
  refine b53_0 (an_i (by omega) (by omega) (c_keep (r := 0) (by decide) sk (fun g f hK fo => b53_29 ?_)))
  have G : ∀ q, q ≠ 52 → q ≠ 56 → g q = h q := fun q h1 h2 => by rw [f q h2, up_p h1, up_p h1]
  simp only [Int.toNat_natCast]
  refine c_choose (d := d) hR hb 12 0 rfl 0 (by decide) (fun _ => False) g _ ⟨fun q h1 h2 h3 h4 h5 h6 => G q (by omega) (by omega), fun j hj => by rw [G 25 (by decide) (by decide)], ⟨?_, ?_⟩, fun e he => ?_⟩ (fun e he => absurd he (by omega)) ?_ (fun g2 h2 hB => b53_36 (c_rsto (d := d + 16) (r := 0) (S := h) (by decide) h2.2.2.1.1 (SOK_O hO) (STB_c h2.2.2.1.2 (STB_r h)) (h2.2.2.2 0 (Nat.le_refl _)) (fun g3 f3 e7 e8 e9 e29 => b53_41 (an_i (by omega) (by omega) ?_))))
  · unfold SOK; rw [G 29 (by decide) (by decide), G 8 (by decide) (by decide), G 9 (by decide) (by decide)]; exact SOK_O hO
  · unfold STB; rw [G 29 (by decide) (by decide), G 8 (by decide) (by decide), G 9 (by decide) (by decide), G 7 (by decide) (by decide)]; exact STB_r h
  · have ee : e = 0 := by omega
    subst ee
    exact KR_c (by rw [up_p (by decide), up_p (by decide)]; rfl) (by rw [up_p (by decide), up_p (by decide)]; rfl) (by rw [up_p (by decide), up_p (by decide)]; rfl) hK
  · rw [f 52 (by decide), up_i (by decide), up_s, up_s]
    exact Or.inl ⟨rfl, rfl, fun _ _ x => absurd x id⟩
  · simp only [Int.toNat_natCast]
    have A : ∀ q, ¬ (52 ≤ q ∧ q ≤ 56) → up2 g3 25 b (h 25 b) q = h q := by
      intro q hq
      by_cases c25 : q = 25
      · subst c25
        rw [up_st]
        funext j
        by_cases ej : j = b
        · subst ej; exact st1_s
        · rw [st1_n ej, f3 25 (by decide) (by decide) (by decide) (by decide)]; exact h2.2.1 j ej
      rw [up_p c25]
      by_cases c7 : q = 7
      · subst c7; exact e7
      by_cases c8 : q = 8
      · subst c8; exact e8
      by_cases c9 : q = 9
      · subst c9; exact e9
      by_cases c29 : q = 29
      · subst c29; exact e29
      rw [f3 q c7 c8 c9 c29, h2.1 q hq c7 c8 c9 c29 c25]
    rw [f3 52 (by decide) (by decide) (by decide) (by decide)]
    exact H _ _ _ _ hB (fun s _ => Or.inr (fun k hk => absurd hk (by omega))) ⟨fun q hq => A q (by omega), fun x _ => by rw [A 69 (by decide)]⟩ A
theorem c_work {v1 : Int} (hR : R h) (H1 : ∀ b : Nat, v1 = (b : Int) → (b : Int) < h 22 2 → ∀ (g : HP) (v c : Int) (P' : Nat → Prop), BI (okW h b) P' v c → (∀ s, s < 4096 → P' s) → SCR h g → (∀ q, ¬ (52 ≤ q ∧ q ≤ 56) → g q = h q) → Q (I v) g) (H3 : ¬ (0 ≤ v1 ∧ v1 < h 22 2) → Q (I (-1)) (rfC h (-1))) : X (d + 19) 116 0 [some (P 0), some (I v1)] [] h Q := by
  by_cases hv : 0 ≤ v1 ∧ v1 < h 22 2
  · obtain ⟨b, eb⟩ := Int.eq_ofNat_of_zero_le hv.1
    have eb' : v1 = (b : Int) := eb
    subst eb'
    exact b116_0 (z123 (br_i (fun q => absurd q (by omega)) (fun _ => br_i (fun _ => b116_14 (br_i (fun _ => c_best (d := d) hR hv.2 (fun g v c P' hB hP sg fg => b116_31 (H1 b rfl hv.2 g v c P' hB hP sg fg))) (fun q => absurd rfl q))) (fun q => absurd hv.2 q))))
  · exact b116_0 (z123 (br_i (fun q => b116_14 (br_i (fun x => absurd x (by decide)) (fun _ => z121 ⟨by decide, by decide, b116_22 (H3 hv)⟩))) (fun _ => br_i (fun q => absurd ⟨by omega, q⟩ hv) (fun q => b116_14 (br_i (fun x => absurd x (by decide)) (fun _ => z121 ⟨by decide, by decide, b116_22 (H3 hv)⟩))))))
end P80
