/-! hours of work: the model; the pair -/
section P81
variable {d : Nat} {h g k k0 S : HP} {Q : PV → HP → Prop} {b : Nat}
theorem TKR_25 {c : HP} {B v : Int} (hT : TKR c k B) (v0 : 0 ≤ v) (v1 : v ≤ 1) : TKR (up2 c 25 b v) k B := by
  have hO := OKC_25 (b := b) hT.1 v0 v1
  obtain ⟨-, h2⟩ := hT
  unfold TKR
  refine ⟨hO, ?_⟩
  simp only [up_p (show 2 ≠ 25 by decide), up_p (show 3 ≠ 25 by decide), up_p (show 4 ≠ 25 by decide), up_p (show 5 ≠ 25 by decide), up_p (show 6 ≠ 25 by decide), up_p (show 7 ≠ 25 by decide), up_p (show 8 ≠ 25 by decide), up_p (show 9 ≠ 25 by decide), up_p (show 12 ≠ 25 by decide), up_p (show 13 ≠ 25 by decide), up_p (show 14 ≠ 25 by decide), up_p (show 15 ≠ 25 by decide), up_p (show 17 ≠ 25 by decide), up_p (show 18 ≠ 25 by decide), up_p (show 19 ≠ 25 by decide), up_p (show 20 ≠ 25 by decide), up_p (show 21 ≠ 25 by decide), up_p (show 22 ≠ 25 by decide), up_p (show 23 ≠ 25 by decide), up_p (show 24 ≠ 25 by decide), up_p (show 26 ≠ 25 by decide), up_p (show 27 ≠ 25 by decide), up_p (show 28 ≠ 25 by decide), up_p (show 29 ≠ 25 by decide), up_p (show 30 ≠ 25 by decide), up_p (show 31 ≠ 25 by decide), up_p (show 32 ≠ 25 by decide), up_p (show 33 ≠ 25 by decide), up_p (show 34 ≠ 25 by decide), up_p (show 39 ≠ 25 by decide), up_p (show 40 ≠ 25 by decide), up_p (show 103 ≠ 25 by decide), up_p (show 104 ≠ 25 by decide)]
  exact h2
/-- the model's warmth of a plate -/
theorem m_wp {p : Nat} (hp : p < 8) (e70 : k 70 = S 3) (e73 : k 73 = S 7) (x3 : 1 ≤ S 3 p ∧ S 3 p ≤ 99) (x7 : 0 ≤ S 7 p ∧ S 7 p ≤ 2000000000) (H : Q (I (wrm S p)) k) : X d 175 0 [some (P 69), some (I (p : Int)), none] [] k Q := by
  have y := tdvB x7.1 x7.2 (show 0 ≤ S 3 p by omega)
  unfold wrm at H
  refine z175 (v1 := (p : Int)) (an_i (by omega) (by omega) (an_i (by omega) (by omega) ?_))
  simp only [Int.toNat_natCast]
  rw [e70, e73, w32_of (by omega) (by omega)]
  refine ⟨by omega, br_i (fun q => ?_) (fun q => ?_)⟩
  · by_cases q2 : Int.tdiv (S 7 p) (S 3 p) < 600
    · rw [if_pos q2] at H; exact H
    · rw [if_neg q2] at H
      have : Int.tdiv (S 7 p) (S 3 p) = 600 := by omega
      rw [this]; exact H
  · rw [if_neg (by omega)] at H; exact H
set_option maxHeartbeats 4000000 in
theorem m_best (hR : R h) (hb : (b : Int) < h 22 2) (h0 : TKR h k0 (2000000 + 40000 * h 0 8)) (z92 : k0 92 = h 25) (z70 : k0 69 70 = -9) (z78 : k0 78 = h 11) (H : ∀ (k : HP) (v c : Int) (P' : Nat → Prop), BI (okW h b) P' v c → (∀ s, s < 4096 → P' s) → SCR k0 k → Q (I v) k) : X (d + 21) 196 0 [some (P 69), none] [] k0 (fun _ h' => X (d + 22) 217 22 [some (P 69), some (I (b : Int)), none, none, none, none] [] h' Q) := by
  have hO := OKC_of hR
  have F : (0 ≤ h 0 8 ∧ h 0 8 ≤ 9999) ∧ (0 ≤ h 23 b ∧ h 23 b ≤ 7 ∧ h 23 b < h 2 0) ∧ h 22 2 ≤ 8 ∧ h 2 0 ≤ 8 := by
    obtain ⟨⟨r1, r2, r3, r4, r5, r6, r7, r8⟩, ⟨r9, r10, r11, r12, r13⟩, ⟨r14, r15, r16, r17, r18, r19, r20⟩, ⟨r21, r22, r23, r24, r25, r26⟩, ⟨r27, r28, r29, r30, r31⟩, ⟨r32, r33⟩, ⟨r34, r35, r36, r37, r38, r39, r40, r41, r42, r43, r44, r45⟩, ⟨r46, r47, r48⟩, ⟨r49, r50, r51, r52, r53, r54, r55⟩, ⟨r56, r57, r58, r59, r60, r61, r62, r63, r64, r65⟩, ⟨r66, r67, r68, r69, r70, r71, r72, r73, r74, r75⟩, ⟨r76, r77, r78, r79, r80, r81, r82, r83⟩, ⟨r84, r85, r86, r87, r88, r89⟩, ⟨r90, r91, r92, r93, r94, r95, r96, r97, r98⟩, ⟨r99, r100, r101, r102, r103, r104, r105, r106⟩, ⟨r107, r108, r109, r110, r111, r112, r113⟩, ⟨r114, r115, r116, r117, r118, r119, r120, r121, r122, r123⟩⟩ := id hR
    have x := r99 b
    have y := r100 b hb
    exact ⟨⟨r68, r69⟩, ⟨x.1, x.2, y⟩, r63, r57⟩
  obtain ⟨t01, ⟨p0, p7, pn⟩, b8, n8⟩ := F
  obtain ⟨p, ep⟩ := Int.eq_ofNat_of_zero_le p0
  have ep' : h 23 b = (p : Int) := ep
  have hm0 : MV h k0 k0 h (2000000 + 40000 * h 0 8) := ⟨h0, STB_r h, ⟨fun _ _ _ _ _ _ _ => rfl, fun _ _ _ _ _ _ => rfl⟩, fun _ _ => rfl⟩
  have z90 : k0 90 = h 23 := h0.2.2.2.2.1.1
  -- all as it was, but for what is put by
  have BK : ∀ (k k' : HP) (S : HP) (B : Int), MV h k0 k S B → SV h k0 k → (∀ q, q ≠ 69 → q ≠ 95 → q ≠ 73 → q ≠ 75 → q ≠ 76 → k' q = k q) → (k' 95 = k0 95 ∧ k' 73 = k0 73 ∧ k' 75 = k0 75 ∧ k' 76 = k0 76) → (∀ x, ¬ (32 ≤ x ∧ x ≤ 35) → x ≠ 71 → k' 69 x = k 69 x) → MV h k0 k' h (2000000 + 40000 * h 0 8) ∧ SV h k0 k' := by
    intro k k' S B hm hv f e f2
    have A : ∀ q, q ≠ 69 → ¬ (105 ≤ q ∧ q ≤ 114) → k' q = k0 q := by
      intro q h1 h2
      by_cases c95 : q = 95
      · subst c95; exact e.1
      by_cases c73 : q = 73
      · subst c73; exact e.2.1
      by_cases c75 : q = 75
      · subst c75; exact e.2.2.1
      by_cases c76 : q = 76
      · subst c76; exact e.2.2.2
      rw [f q h1 c95 c73 c75 c76]
      exact hm.2.2.1.1 q h1 c73 c95 c75 c76 h2
    have A2 : ∀ x, ¬ (32 ≤ x ∧ x ≤ 35) → ¬ (49 ≤ x ∧ x ≤ 53) → ¬ (55 ≤ x ∧ x ≤ 62) → ¬ (70 ≤ x ∧ x ≤ 71) → ¬ (74 ≤ x ∧ x ≤ 77) → k' 69 x = k0 69 x := fun x h1 h2 h3 h4 h5 => by rw [f2 x h1 (by omega)]; exact hm.2.2.1.2 x h1 h2 h3 h4 h5
    refine ⟨⟨TKR_k h0 (fun q hq => A q (by omega) (by omega)) (fun x hx => A2 x (by omega) (by omega) (by omega) (by omega) (by omega)), STB_r h, ⟨fun q h1 h2 h3 h4 h5 h6 => A q h1 h6, A2⟩, fun q _ => by rw [e.2.2.2]⟩, ⟨?_, ?_⟩⟩
    · rw [f 114 (by decide) (by decide) (by decide) (by decide) (by decide)]; exact hv.1
    · rw [f2 74 (by decide) (by decide), f2 75 (by decide) (by decide), f2 76 (by decide) (by decide), f2 77 (by decide) (by decide)]; exact hv.2
  have L : ∀ m s : Nat, s + m = 4096 → ∀ (k : HP) (v2 c2 : Int) (S : HP) (B : Int), MV h k0 k S B → SV h k0 k → k 69 70 = (b : Int) → v2 < (s : Int) → BI (okW h b) (fun r => r < s) v2 c2 → X (d + 22) 217 32 [some (P 69), some (I (b : Int)), some (I v2), some (I (s : Int)), none, none] [] k Q := by
    intro m
    induction m with
    | zero =>
      intro s hs k v2 c2 S B hm hv k70 hlt hB
      have es : s = 4096 := by omega
      subst es
      have hm' : MV h k0 (up2 k 69 70 (-9)) S B := MV_k hm (fun q h1 h2 => up_p h1) (fun x hx => up_i (by omega)) (fun x hx => up_i (by omega))
      have hv' : SV h k0 (up2 k 69 70 (-9)) := by
        unfold SV
        rw [up_p (by decide), up_i (by decide), up_i (by decide), up_i (by decide), up_i (by decide)]
        exact hv
      refine b217_32 (br_i (fun _ => m_putb h0 hm' hv' (fun k' f e f2 e2 => b217_154 (H k' v2 c2 _ hB (fun s hs => hs) (MV_scr hm' f e (fun x h1 _ => f2 x h1) ?_ e2)))) (fun q => absurd (by omega) q))
      rw [f2 70 (by decide), up_s, z70]
    | succ m ih =>
      intro s hs k v2 c2 S B hm hv k70 hlt hB
      have s4 : s < 4096 := by omega
      have NX : ∀ (k : HP) (v2 c2 : Int) (S : HP) (B : Int), MV h k0 k S B → SV h k0 k → k 69 70 = (b : Int) → v2 < (s : Int) + 1 → BI (okW h b) (fun r => r < s + 1) v2 c2 → X (d + 22) 217 138 [some (P 69), some (I (b : Int)), some (I v2), some (I (s : Int)), none, none] [] k Q := by
        intro k v2 c2 S B hm hv k70 hlt hB
        refine b217_138 ?_
        rw [w32_n (by omega)]
        exact ih (s + 1) (by omega) k v2 c2 S B hm hv k70 (by omega) hB
      -- the twelve hours of s
      have EV : (∀ k S B, MV h k0 k S B → SV h k0 k → k 69 70 = (b : Int) → okW h b s → X (d + 22) 217 138 [some (P 69), some (I (b : Int)), some (I (s : Int)), some (I (s : Int)), none, none] [] k Q) → (∀ k S B, MV h k0 k S B → SV h k0 k → k 69 70 = (b : Int) → ¬ okW h b s → X (d + 22) 217 138 [some (P 69), some (I (b : Int)), some (I v2), some (I (s : Int)), none, none] [] k Q) → X (d + 22) 217 54 [some (P 69), some (I (b : Int)), some (I v2), some (I (s : Int)), none, none] [] k Q := by
        intro KY KN
        have LT : ∀ c i : Nat, i + c = 12 → ∀ (k : HP) (v4 : Int), MV h k0 k (VW h b s i) (2000000 + 40000 * h 0 8 + 40000 * i) → SV h k0 k → (k 69 70 = (b : Int) ∧ k 69 71 = (s : Int) ∧ k 69 32 = (i : Int)) → (∀ e, e < i → okH h b s e) → X (d + 22) 217 74 [some (P 69), some (I (b : Int)), some (I v2), some (I (s : Int)), some (I 1), some (I (i : Int))] [] k Q := by
          intro c
          induction c with
          | zero =>
            intro i hi k v4 hm hv hk hok
            have ei : i = 12 := by omega
            subst ei
            exact b217_74 (br_i (fun _ => b217_127 (br_i (fun x => absurd x (by decide)) (fun _ => b217_137 (KY k _ _ hm hv hk.1 (fun t ht => hok t ht))))) (fun q => absurd (by omega) q))
          | succ c ihc =>
            intro i hi k v4 hm hv hk hok
            have br := bitF_r s i
            have hmc : MV h k0 k (up2 (VW h b s i) 25 b (bitF s i)) (2000000 + 40000 * h 0 8 + 40000 * i) := ⟨TKR_25 hm.1 br.1 br.2, STB_25 hm.2.1, hm.2.2.1, hm.2.2.2⟩
            have hY : BYH (up2 (VW h b s i) 25 b (bitF s i)) k i := by
              right
              refine ⟨b, by omega, hk.1, ?_, fun j hj => ?_⟩
              · rw [hk.2.1, bit1F (by omega) (by omega), up_s]
                omega
              · rw [up_i hj, VW_25 hj, hm.2.2.1.1 92 (by decide) (by decide) (by decide) (by decide) (by decide) (by decide), z92]
            refine b217_74 (br_i (fun q => absurd q (by omega)) (fun _ => br_i (fun q => absurd q (by decide)) (fun _ => m_tickV (hr := i) hmc (by omega) (by omega) hY (by rw [hk.2.2, Int.tmod_eq_emod_of_nonneg (by omega)]; omega) (by omega) (fun k' hm' e32 e113 f69 => b217_90 (an_i (by omega) (by omega) ?_)))))
            have eB : 2000000 + 40000 * h 0 8 + 40000 * ((i : Nat) : Int) + 40000 = 2000000 + 40000 * h 0 8 + 40000 * ((i + 1 : Nat) : Int) := by omega
            rw [eB] at hm'
            have hm'' : MV h k0 k' (VW h b s (i + 1)) (2000000 + 40000 * h 0 8 + 40000 * ((i + 1 : Nat) : Int)) := hm'
            have hv' : SV h k0 k' := by
              refine ⟨fun j hj => by rw [e113.2]; exact hv.1 j hj, ?_⟩
              rw [f69 74 (by decide) (by decide) (by decide), f69 75 (by decide) (by decide) (by decide), f69 76 (by decide) (by decide) (by decide), f69 77 (by decide) (by decide) (by decide)]
              exact hv.2
            have k90 : k' 90 = h 23 := by rw [hm''.2.2.1.1 90 (by decide) (by decide) (by decide) (by decide) (by decide) (by decide), z90]
            have k78 : k' 78 = h 11 := by rw [hm''.2.2.1.1 78 (by decide) (by decide) (by decide) (by decide) (by decide) (by decide), z78]
            have z2 : VW h b s (i + 1) 2 = h 2 := VW_f (q := 2) (by decide) (by decide) _
            have x3 := hm''.1.1.2.1.1 p (by rw [z2]; omega)
            have x7 := hm''.1.1.2.1.2.2.1 p
            simp only [Int.toNat_natCast]
            rw [k90, ep']
            refine m_wp (by omega) hm''.1.2.1.1 hm''.1.2.1.2.2.2.1 x3 (by omega) (b217_100 (an_i (by omega) (by omega) ?_))
            simp only [Int.toNat_natCast]
            rw [k90, ep', k78]
            simp only [Int.toNat_natCast]
            have eok : okH h b s i ↔ ¬ h 11 p < wrm (VW h b s (i + 1)) p := by
              unfold okH
              rw [ep', Int.toNat_natCast]
              omega
            have h70 : k' 69 70 = (b : Int) := by rw [f69 70 (by decide) (by decide) (by decide)]; exact hk.1
            refine an_i (by omega) (by omega) (br_i (fun q => b217_119 ?_) (fun q => b217_119 ?_))
            · have nok : ¬ okW h b s := fun x => eok.mp (x i (by omega)) q
              rw [w32_n (by omega)]
              have OUT := KN k' _ _ hm'' hv' h70 nok
              refine b217_74 (br_i (fun _ => b217_127 (br_i (fun _ => b217_137 OUT) (fun x => absurd rfl x))) (fun _ => br_i (fun _ => b217_127 (br_i (fun _ => b217_137 OUT) (fun x => absurd rfl x))) (fun x => absurd rfl x)))
            · rw [w32_n (by omega)]
              refine ihc (i + 1) (by omega) k' v4 hm'' hv' ⟨h70, ?_, ?_⟩ (fun e he => ?_)
              · rw [f69 71 (by decide) (by decide) (by decide)]; exact hk.2.1
              · rw [e32, hk.2.2, w32_n (by omega)]
              · by_cases ee : e = i
                · subst ee; exact eok.mpr q
                · exact hok e (by omega)
        refine b217_54 (m_putb h0 hm hv (fun k' f e f2 e2 => b217_58 ?_))
        obtain ⟨m1, m2⟩ := BK k (up2 (up2 k' 69 32 0) 69 71 (s : Int)) S B hm hv (fun q h1 h2 h3 h4 h5 => by rw [up_p h1, up_p h1]; exact f q h1 h2 h3 h4 h5) (by rw [up_p (by decide), up_p (by decide), up_p (by decide), up_p (by decide), up_p (by decide), up_p (by decide), up_p (by decide), up_p (by decide)]; exact e) (fun x h1 h2 => by rw [up_i h2, up_i (by omega)]; exact f2 x h1)
        refine LT 12 0 rfl _ 0 ?_ m2 ⟨?_, up_s, ?_⟩ (fun e he => absurd he (by omega))
        · show MV h k0 _ h _
          simpa using m1
        · rw [up_i (by decide), up_i (by decide), f2 70 (by decide)]; exact k70
        · rw [up_i (by decide), up_s]; rfl
      have TRY : (v2 < 0 ∨ cnt s > c2) → X (d + 22) 217 54 [some (P 69), some (I (b : Int)), some (I v2), some (I (s : Int)), none, none] [] k Q := by
        intro hc
        refine EV (fun k S B hm hv k70 ok => NX k _ (cnt s) S B hm hv k70 (by omega) (BI_new s4 ok hB ?_ (fun r hr hp => ?_))) (fun k S B hm hv k70 nok => NX k v2 c2 S B hm hv k70 (by omega) (BI_no hB (fun r hr hp => ?_)))
        · have cr := cnt_r s
          rcases hB with ⟨a1, a2, a3⟩ | ⟨r, r1, r2, r3, r4, r5⟩
          · exact Or.inl (by omega)
          · exact Or.inl (by omega)
        · by_cases er : r = s
          · exact Or.inr er
          · exact Or.inl (by omega)
        · by_cases er : r = s
          · subst er; exact Or.inr nok
          · exact Or.inl (by omega)
      refine b217_32 (br_i (fun q => absurd q (by omega)) (fun _ => br_i (fun q => TRY (Or.inl q)) (fun q => m_cnt s4 (b217_47 ?_))))
      rcases hB with ⟨a1, a2, a3⟩ | ⟨r, r1, r2, r3, r4, r5⟩
      · omega
      · subst r2
        refine m_cnt r1 (b217_51 (br_i (fun q2 => NX k _ c2 S B hm hv k70 (by omega) (Or.inr ⟨r, r1, rfl, r3, r4, fun w hw hp hk => ?_⟩)) (fun q2 => TRY (Or.inr (by omega)))))
        by_cases ew : w = s
        · subst ew
          unfold bet
          by_cases e1 : cnt w < cnt r
          · exact Or.inl e1
          · exact Or.inr ⟨by omega, by omega⟩
        · exact r5 w hw (by omega) hk
  refine m_save (d := d + 20) hm0 (fun k hm hv f => b217_22 (L 4096 0 rfl _ (-9) (-1) h _ (MV_k hm (fun q h1 h2 => up_p h1) (fun x hx => up_i (by omega)) (fun x hx => up_i (by omega))) ?_ up_s (by decide) (Or.inl ⟨rfl, rfl, fun s _ x => absurd x (by omega)⟩)))
  unfold SV
  rw [up_p (by decide), up_i (by decide), up_i (by decide), up_i (by decide), up_i (by decide)]
  exact hv
theorem m_work {v1 : Int} (H1 : (0 ≤ v1 ∧ v1 < k0 69 26) → X (d + 21) 196 0 [some (P 69), none] [] k0 (fun _ h' => X (d + 22) 217 22 [some (P 69), some (I v1), none, none, none, none] [] h' Q)) (H3 : ¬ (0 ≤ v1 ∧ v1 < k0 69 26) → Q (I (-1)) (rfM k0 (-1))) : X (d + 22) 217 0 [some (P 69), some (I v1), none, none, none, none] [] k0 Q := by
  by_cases hv : 0 ≤ v1 ∧ v1 < k0 69 26
  · exact b217_0 (br_i (fun q => absurd q (by omega)) (fun _ => br_i (fun _ => H1 hv) (fun q => absurd hv.2 q)))
  · exact b217_0 (br_i (fun q => b217_12 (z135 ⟨by decide, by decide, b217_17 (H3 hv)⟩)) (fun q => br_i (fun q2 => absurd ⟨by omega, q2⟩ hv) (fun q2 => b217_12 (z135 ⟨by decide, by decide, b217_17 (H3 hv)⟩))))
theorem p_work {v1 : Int} (hR : R h) : X (d + 22) 116 0 [some (P 0), some (I v1)] [] h (fun r h1 => X (d + 22) 217 0 [some (P 69), some (I v1), none, none, none, none] [] h1 (fun r' h2 => EQA r r' h2)) := by
  have hT := TKR_of hR
  have F : h 25 = h 92 ∧ h 69 70 = -9 ∧ h 11 = h 78 ∧ h 22 2 = h 69 26 := by
    obtain ⟨⟨r1, r2, r3, r4, r5, r6, r7, r8⟩, ⟨r9, r10, r11, r12, r13⟩, ⟨r14, r15, r16, r17, r18, r19, r20⟩, ⟨r21, r22, r23, r24, r25, r26⟩, ⟨r27, r28, r29, r30, r31⟩, ⟨r32, r33⟩, ⟨r34, r35, r36, r37, r38, r39, r40, r41, r42, r43, r44, r45⟩, ⟨r46, r47, r48⟩, ⟨r49, r50, r51, r52, r53, r54, r55⟩, ⟨r56, r57, r58, r59, r60, r61, r62, r63, r64, r65⟩, ⟨r66, r67, r68, r69, r70, r71, r72, r73, r74, r75⟩, ⟨r76, r77, r78, r79, r80, r81, r82, r83⟩, ⟨r84, r85, r86, r87, r88, r89⟩, ⟨r90, r91, r92, r93, r94, r95, r96, r97, r98⟩, ⟨r99, r100, r101, r102, r103, r104, r105, r106⟩, ⟨r107, r108, r109, r110, r111, r112, r113⟩, ⟨r114, r115, r116, r117, r118, r119, r120, r121, r122, r123⟩⟩ := id hR
    exact ⟨r23, r55, r8, r37⟩
  refine c_work (d := d + 3) hR (fun b eb hb g v c P' hB hP sg fg => ?_) (fun hn => m_work (fun hv => absurd (by rw [rfC_p (by decide), ← F.2.2.2] at hv; exact hv) hn) (fun _ => EQA_rf hR))
  subst eb
  have e26 : g 69 26 = h 22 2 := by rw [fg 69 (by decide), F.2.2.2]
  refine m_work (fun _ => m_best hR hb (TKR_k hT (fun q hq => fg q (by omega)) (fun x _ => by rw [fg 69 (by decide)])) (by rw [fg 92 (by decide), F.1]) (by rw [fg 69 (by decide), F.2.1]) (by rw [fg 78 (by decide), F.2.2.1]) (fun k v' c' P'' hB' hP' sk => ?_)) (fun hn => absurd ⟨by omega, by rw [e26]; exact hb⟩ hn)
  have := BI_u hB hB' hP hP'
  subst this
  exact ⟨rfl, R_scr sk (R_scr sg hR)⟩
end P81
