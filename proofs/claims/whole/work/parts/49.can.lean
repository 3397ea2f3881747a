/-! fits: the model's rest in a can -/
def exK (h : HP) (p : Nat) : Int := if (p : Int) = h 69 85 then h 69 84 else 0
def ntK (h : HP) : (Nat → Int) → Nat → Int := nt (h 69 17).toNat (h 69 22).toNat (exK h) (TM h) (h 83) (h 84) (h 106) (h 86) (h 87) (h 88) (h 107)
theorem ntK_mono {h : HP} (hM : MS h) : mono (h 69 9).toNat (ntK h) := by
  obtain ⟨-, -, -, ⟨k1, k2⟩⟩ := id hM
  exact nt_mono k1 k2
theorem ntK_o {h h' : HP} (H : o105 h h') : ntK h' = ntK h := by
  funext w p
  unfold ntK nt exK TM
  simp only [H 69 (by decide), H 71 (by decide), H 72 (by decide), H 79 (by decide), H 81 (by decide), H 83 (by decide), H 84 (by decide), H 106 (by decide), H 86 (by decide), H 87 (by decide), H 88 (by decide), H 107 (by decide), H 111 (by decide)]
section P49
variable {d : Nat} {h : HP} {Q : PV → HP → Prop} {v1 v2 v3 v4 n m : Int}
set_option maxHeartbeats 4000000 in
theorem m_kbal {p : Nat} {ag : Int} (hM : MS h) (hK : 0 ≤ h 69 84 ∧ h 69 84 ≤ 999) (hp : p < (h 69 9).toNat) (hW : ∀ q : Nat, q < (h 69 9).toNat → 0 ≤ h 105 q ∧ h 105 q ≤ 600) (hpos : 0 < h 105 p) (HA : 0 ≤ ntK h (h 105) p → X (d + 3) 206 127 [some (P 69), some (I v1), some (I v2), some (I v3), some (I ag), some (I p)] [] h Q) (HB : ntK h (h 105) p < 0 → X (d + 3) 206 91 [some (P 69), some (I v1), some (I v2), some (I v3), some (I 1), some (I p)] [] (up2 h 105 p (h 105 p - 1)) Q) : X (d + 3) 206 91 [some (P 69), some (I v1), some (I v2), some (I v3), some (I ag), some (I p)] [] h Q := by
  obtain ⟨⟨⟨n0, n8⟩, ⟨c0, c1⟩, ⟨d0, d1⟩, -, -⟩, ⟨-, -, -, ⟨g0, g1⟩⟩, ⟨h71, h72, -, h79, hr, -, h81, -, -⟩, ⟨k1, k2⟩⟩ := id hM
  have x3 := sm_b (f := ledJ (h 83) (h 84) (h 106) (h 105) p) (n := (h 69 17).toNat) (a := -59400) (b := 59400) (fun j hj => ledJ_r k1 hj hW)
  have x4 := sm_b (f := ledP (h 86) (h 87) (h 88) (h 107) (h 105) p) (n := (h 69 22).toNat) (a := -59400) (b := 59400) (fun j hj => ledP_r k2 hj hW)
  have w := hW p hp
  have sb := sb_r (co := h 72) (yr := h 69 60) p h81 g0 g1
  have tm : 0 ≤ TM h p (h 105 p) ∧ TM h p (h 105 p) ≤ 199980 := (snt_r hr h79 (h71 p).1 (h71 p).2 sb.1 sb.2.1 w.1).2.2.2.2
  have er : 0 ≤ exK h p ∧ exK h p ≤ 999 := by unfold exK; split <;> omega
  have eN : ntK h (h 105) p = exK h p + (sm (ledJ (h 83) (h 84) (h 106) (h 105) p) (h 69 17).toNat + sm (ledP (h 86) (h 87) (h 88) (h 107) (h 105) p) (h 69 22).toNat) - TM h p (h 105 p) := by
    unfold ntK nt; omega
  refine b206_91 (an_i (by omega) (by omega) (br_i (fun q => absurd hpos (by simpa using q)) (fun _ => b205_0 ?_)))
  have F : ∀ y, y = exK h p → X (d + 2) 205 16 [some (P 69), some (I p)] [I y] h (fun r h' => X (d + 3) 206 107 [some (P 69), some (I v1), some (I v2), some (I v3), some (I ag), some (I p)] [r] h' Q) := by
    intro y hy
    subst hy
    refine b205_16 (m_led hM hW (b205_21 ?_))
    rw [w32_of (by omega) (by omega)]
    refine m_sends (by omega) (by omega) w.1 w.2 hM (b205_27 ?_)
    simp only [Int.toNat_natCast]
    rw [← eN]
    have e2 : w32 (ntK h (h 105) p) = ntK h (h 105) p := w32_of (by omega) (by omega)
    rw [e2]
    refine b206_107 (br_i (fun q => HA q) (fun q => an_i (by omega) (by omega) (an_i (by omega) (by omega) ?_)))
    simp only [Int.toNat_natCast]
    rw [w32_of (by omega) (by omega)]
    exact HB (by omega)
  refine br_i (fun q => F 0 ?_) (fun q => F _ ?_)
  · unfold exK; rw [if_neg q]
  · unfold exK; rw [if_pos (Classical.not_not.mp q)]
set_option maxHeartbeats 4000000 in
theorem m_krest (hM : MS h) (hK : 0 ≤ h 69 84 ∧ h 69 84 ≤ 999) (H : ∀ h', o105 h h' → GR (h 69 9).toNat (ntK h) (h' 105) → X (d + 3) 206 71 [some (P 69), some (I v1), some (I v2), some (I v3), some (I 0), none] [] h' Q) : ∀ (M : Nat) (h' : HP), o105 h h' → rsI (h 69 9).toNat (ntK h) (h' 105) → (sm (h' 105) (h 69 9).toNat).toNat ≤ M → X (d + 3) 206 71 [some (P 69), some (I v1), some (I v2), some (I v3), some (I 1), none] [] h' Q := by
  have n8 : 0 ≤ h 69 9 ∧ h 69 9 ≤ 8 := hM.1.1
  intro M
  induction M using Nat.strongRecOn with
  | _ M IH =>
  intro h' ho hI hM'
  have L35 : ∀ k i : Nat, i + k = (h 69 9).toNat → ∀ (ag : Int) (g : HP), o105 h g → rsI (h 69 9).toNat (ntK h) (g 105) → ((ag = 1 ∧ sm (g 105) (h 69 9).toNat < sm (h' 105) (h 69 9).toNat) ∨ (ag = 0 ∧ g = h' ∧ ∀ q, q < i → stl (ntK h) (h' 105) q)) → X (d + 3) 206 82 [some (P 69), some (I v1), some (I v2), some (I v3), some (I ag), some (I i)] [] g Q := by
    intro k
    induction k with
    | zero =>
      intro i hi ag g hg gI hc
      have e9 : g 69 9 = h 69 9 := by rw [hg 69 (by decide)]
      refine b206_82 (br_i (fun q => ?_) (fun q => absurd (by rw [e9]; omega) q))
      rcases hc with ⟨e, hs⟩ | ⟨e, eg, hs⟩
      · subst e
        have s0 := sm_nn (f := g 105) (n := (h 69 9).toNat) (fun j hj => (gI.1 j hj).1)
        have s1 := sm_nn (f := h' 105) (n := (h 69 9).toNat) (fun j hj => (hI.1 j hj).1)
        exact IH (sm (g 105) (h 69 9).toNat).toNat (by omega) g hg gI (by omega)
      · subst e eg
        exact H g hg (rs_end gI (fun q hq => hs q (by omega)))
    | succ k ih =>
      intro i hi ag g hg gI hc
      have e9 : g 69 9 = h 69 9 := by rw [hg 69 (by decide)]
      refine b206_82 (br_i (fun q => absurd q (by rw [e9]; omega)) (fun _ => ?_))
      have N92 : ∀ (ag : Int) (g : HP), o105 h g → rsI (h 69 9).toNat (ntK h) (g 105) → ((ag = 1 ∧ sm (g 105) (h 69 9).toNat < sm (h' 105) (h 69 9).toNat) ∨ (ag = 0 ∧ g = h' ∧ ∀ q, q < i → stl (ntK h) (h' 105) q)) → stl (ntK h) (g 105) i → X (d + 3) 206 127 [some (P 69), some (I v1), some (I v2), some (I v3), some (I ag), some (I i)] [] g Q := by
        intro ag g hg gI hc hs
        refine b206_127 ?_
        rw [w32_n (by omega)]
        refine ih (i + 1) (by omega) ag g hg gI ?_
        rcases hc with c | ⟨e, eg, hs'⟩
        · exact Or.inl c
        · subst eg
          refine Or.inr ⟨e, rfl, fun q hq => ?_⟩
          by_cases eq : q = i
          · subst eq; exact hs
          · exact hs' q (by omega)
      have L43 : ∀ (m : Nat) (ag : Int) (g : HP), o105 h g → rsI (h 69 9).toNat (ntK h) (g 105) → ((ag = 1 ∧ sm (g 105) (h 69 9).toNat < sm (h' 105) (h 69 9).toNat) ∨ (ag = 0 ∧ g = h' ∧ ∀ q, q < i → stl (ntK h) (h' 105) q)) → (g 105 i).toNat = m → X (d + 3) 206 91 [some (P 69), some (I v1), some (I v2), some (I v3), some (I ag), some (I i)] [] g Q := by
        intro m
        induction m with
        | zero =>
          intro ag g hg gI hc hm
          have gi := gI.1 i (by omega)
          refine b206_91 (an_i (by omega) (by omega) (br_i (fun q => ?_) (fun q => absurd (show g 105 i ≤ 0 by omega) q)))
          exact N92 ag g hg gI hc (Or.inl (by omega))
        | succ m ihm =>
          intro ag g hg gI hc hm
          have e9 : g 69 9 = h 69 9 := by rw [hg 69 (by decide)]
          have gi := gI.1 i (by omega)
          refine m_kbal (MS_o hg hM) (by rw [hg 69 (by decide)]; exact hK) (by rw [e9]; omega) (by rw [e9]; exact gI.1) (by omega) (fun q => ?_) (fun q => ?_)
          · rw [ntK_o hg] at q
            exact N92 ag g hg gI hc (Or.inr q)
          · rw [ntK_o hg] at q
            have hs : sm (st1 (g 105) i (g 105 i - 1)) (h 69 9).toNat = sm (g 105) (h 69 9).toNat - g 105 i + (g 105 i - 1) := sm_st (by omega)
            refine ihm 1 _ (o105_u hg) ⟨?_, ?_⟩ (Or.inl ⟨rfl, ?_⟩) ?_
            · rw [up_st]
              intro r hr
              by_cases e : r = i
              · subst e; rw [st1_s]; omega
              · rw [st1_n e]; exact gI.1 r hr
            · rw [up_st]
              refine upB_low (ntK_mono hM) gI.2 (by omega) (fun s s1 s2 => ?_)
              have : s = g 105 i := by omega
              rw [this, st1_id]; exact q
            · rw [up_st, hs]
              rcases hc with ⟨-, c⟩ | ⟨-, c, -⟩
              · omega
              · subst c; omega
            · rw [up_st, st1_s]; omega
      exact L43 _ ag g hg gI hc rfl
  refine b206_71 (br_i (fun q => absurd q (by decide)) (fun _ => ?_))
  exact L35 (h 69 9).toNat 0 (by omega) 0 h' ho hI (Or.inr ⟨rfl, rfl, fun q hq => absurd hq (by omega)⟩)
theorem tk_0 {ar co tks fa : Nat → Int} {yr : Int} {p : Nat} : tkF ar co tks fa 0 yr p = 0 := by unfold tkF; simp
theorem bx_0 {wt pl : Nat → Int} {ys : Int} {p n : Nat} : sm (bxF wt pl z0F ys p) n = 0 := sm_0 (fun j _ => by unfold bxF; rw [if_neg (fun x => x.1 rfl)])
theorem ht_0 {wt pl : Nat → Int} {p n : Nat} : sm (htF wt pl z0F p) n = 0 := sm_0 (fun j _ => by unfold htF; rw [if_neg (fun x => x.1 rfl)])
theorem ntK_NT {g : HP} (hR : R h) (a : SCR h g) (st : Nat → Int) (w : Nat → Int) (p : Nat) : ntK g w p = NT h 0 (g 69 60) 100 (g 69 62) z0F z0F (g 107) (g 111) st (g 106) (exK g) w p := by
  obtain ⟨⟨r1, r2, r3, r4, r5, r6, r7, r8⟩, ⟨r9, r10, r11, r12, r13⟩, ⟨r14, r15, r16, r17, r18, r19, r20⟩, ⟨r21, r22, r23, r24, r25, r26⟩, ⟨r27, r28, r29, r30, r31⟩, ⟨r32, r33⟩, ⟨r34, r35, r36, r37, r38, r39, r40, r41, r42, r43, r44, r45⟩, ⟨r46, r47, r48⟩, ⟨r49, r50, r51, r52, r53, r54, r55⟩, ⟨r56, r57, r58, r59, r60, r61, r62, r63, r64, r65⟩, ⟨r66, r67, r68, r69, r70, r71, r72, r73, r74, r75⟩, ⟨r76, r77, r78, r79, r80, r81, r82, r83⟩, ⟨r84, r85, r86, r87, r88, r89⟩, ⟨r90, r91, r92, r93, r94, r95, r96, r97, r98⟩, ⟨r99, r100, r101, r102, r103, r104, r105, r106⟩, ⟨r107, r108, r109, r110, r111, r112, r113⟩, ⟨r114, r115, r116, r117, r118, r119, r120, r121, r122, r123⟩⟩ := id hR
  unfold ntK NT nt TM
  simp only [tk_0, bx_0, ht_0]
  rw [a.2 17 rfl, a.2 22 rfl, a.1 71 (by decide), a.1 72 (by decide), a.1 79 (by decide), a.1 81 (by decide), a.1 83 (by decide), a.1 84 (by decide), a.1 86 (by decide), a.1 87 (by decide), a.1 88 (by decide)]
  rw [← r35, ← r36, ← r2, ← r3, ← r9, ← r11, ← r14, ← r15, ← r17, ← r18, ← r19]
  omega
noncomputable def CAN (h : HP) (j : Nat) (l : Int) (t : Nat) : Int := RV h 0 (h 30 5) 100 100 z0F z0F (h 21) (fun _ => 2) (h 23) (st1 (h 15) j l) (fun p => if h 62 t = p then h 63 t else 0) (h 64 t).toNat
theorem CAN_s {g : HP} (a : SCR h g) {j t : Nat} {l : Int} : CAN g j l t = CAN h j l t := by
  unfold CAN
  rw [RV_s a, a.1 30 (by decide), a.1 21 (by decide), a.1 23 (by decide), a.1 15 (by decide), a.1 62 (by decide), a.1 63 (by decide), a.1 64 (by decide)]
theorem R_tri (hR : R h) : (h 61 0 = h 69 83 ∧ 0 ≤ h 61 0 ∧ h 61 0 ≤ 10) ∧ (h 62 = h 115 ∧ h 63 = h 116 ∧ h 64 = h 117 ∧ h 65 = h 118 ∧ h 66 = h 119) ∧ rgA (h 62) 0 7 ∧ below (h 62) (h 61 0) (h 2 0) ∧ rgA (h 63) 0 999 ∧ rgA (h 64) 0 7 ∧ below (h 64) (h 61 0) (h 2 0) ∧ rgA (h 65) 0 600 ∧ rgA (h 66) 0 99 := by
  obtain ⟨⟨r1, r2, r3, r4, r5, r6, r7, r8⟩, ⟨r9, r10, r11, r12, r13⟩, ⟨r14, r15, r16, r17, r18, r19, r20⟩, ⟨r21, r22, r23, r24, r25, r26⟩, ⟨r27, r28, r29, r30, r31⟩, ⟨r32, r33⟩, ⟨r34, r35, r36, r37, r38, r39, r40, r41, r42, r43, r44, r45⟩, ⟨r46, r47, r48⟩, ⟨r49, r50, r51, r52, r53, r54, r55⟩, ⟨r56, r57, r58, r59, r60, r61, r62, r63, r64, r65⟩, ⟨r66, r67, r68, r69, r70, r71, r72, r73, r74, r75⟩, ⟨r76, r77, r78, r79, r80, r81, r82, r83⟩, ⟨r84, r85, r86, r87, r88, r89⟩, ⟨r90, r91, r92, r93, r94, r95, r96, r97, r98⟩, ⟨r99, r100, r101, r102, r103, r104, r105, r106⟩, ⟨r107, r108, r109, r110, r111, r112, r113⟩, ⟨r114, r115, r116, r117, r118, r119, r120, r121, r122, r123⟩⟩ := id hR
  exact ⟨⟨r45, r74, r75⟩, ⟨r27, r28, r29, r30, r31⟩, r107, r108, r109, r110, r111, r112, r113⟩
set_option maxHeartbeats 4000000 in
theorem m_can {t j : Nat} {l : Int} (hR : R h) (t1 : (t : Int) < h 61 0) (j1 : (j : Int) < h 12 1) (l0 : 0 ≤ l) (l1 : l ≤ 99) (H : ∀ g y, SCR h g → y = CAN h j l t → 0 ≤ y → y ≤ 600 → Q (I y) g) : X (d + 5) 206 0 [some (P 69), some (I t), some (I j), some (I l), none, none] [] h Q := by
  obtain ⟨⟨cn1, cn2, -⟩, n8, j20, -⟩ := R_cnt hR
  obtain ⟨⟨q1, q2, q3⟩, ⟨s1, s2, s3, s4, s5⟩, u1, u2, u3, u4, u5, u6, u7⟩ := R_tri hR
  have x62 := u1 t
  have x63 := u3 t
  have x64 := u4 t
  have y62 := u2 t t1
  have y64 := u5 t t1
  refine b206_0 (m_lay hR (by decide) (by decide) (fun g0 hL => b206_5 ?_))
  have S0 := LAY_s hR hL
  have L : ∀ c i : Nat, i + c = (h 2 0).toNat → ∀ (g : HP), SCR h g → (∃ dr, SCM g (h 34 0) (h 30 5) 100 100 (h 25) (hnF h) (h 21) dr (h 23) (h 15) ∧ ∀ p, p < i → dr p = 2) → (∀ p, p < i → g 105 p = 600) → X (d + 5) 206 8 [some (P 69), some (I t), some (I j), some (I l), some (I i), none] [] g Q := by
    intro c
    induction c with
    | zero =>
      intro i hi g sg hdr h105
      obtain ⟨dr, S, hd⟩ := hdr
      have e9 : g 69 9 = h 2 0 := n_scr hR sg
      refine b206_8 (br_i (fun _ => an_i (by omega) (by omega) (an_i (by omega) (by omega) (an_i (by omega) (by omega) ?_))) (fun q => absurd (by rw [e9]; omega) q))
      rw [sg.1 115 (by decide), sg.1 116 (by decide), ← s1, ← s2]
      simp only [Int.toNat_natCast]
      have S1 := SCM_ld (j := j) (v := l) l0 l1 S
      have sk : SCR h (up2 (up2 (up2 g 106 j l) 69 84 (h 63 t)) 69 85 (h 62 t)) := SCR_m (SCR_m (SCR_u sg (by decide)) rfl) rfl
      generalize ek : up2 (up2 (up2 g 106 j l) 69 84 (h 63 t)) 69 85 (h 62 t) = k at sk
      have Sk : SCM k (h 34 0) (h 30 5) 100 100 (h 25) (hnF h) (h 21) dr (h 23) (st1 (h 15) j l) := by
        rw [← ek]
        unfold SCM at S1 ⊢
        simp only [up_p, up_i, ne_eq, Nat.reduceEqDiff, not_false_eq_true] at S1 ⊢
        exact S1
      have k84 : k 69 84 = h 63 t := by rw [← ek, up_i (by decide), up_s]
      have k85 : k 69 85 = h 62 t := by rw [← ek, up_s]
      have k105 : ∀ p, p < (h 2 0).toNat → k 105 p = 600 := fun p hp => by
        rw [← ek, up_p (by decide), up_p (by decide), up_p (by decide)]; exact h105 p (by omega)
      have hM := MS_sc hR (SCT_of sk) Sk
      have k9 : k 69 9 = h 2 0 := n_scr hR sk
      refine m_krest hM (by rw [k84]; omega) (fun k2 o2 hG => ?_) _ k (fun _ _ => rfl) ⟨fun q hq => ?_, fun w hw q hq => ?_⟩ (Nat.le_refl _)
      · have s2' : SCR h k2 := SCR_105 sk o2
        refine b206_71 (br_i (fun _ => an_i (by omega) (by omega) ?_) (fun q => absurd rfl q))
        rw [s2'.1 117 (by decide), ← s3]
        simp only [Int.toNat_natCast]
        rw [k9] at hG
        have G2 : GR (h 2 0).toNat (NT h 0 (h 30 5) 100 100 z0F z0F (h 21) (fun _ => 2) (h 23) (st1 (h 15) j l) (fun p => if h 62 t = p then h 63 t else 0)) (k2 105) := by
          refine GR_c (fun w p hp => ?_) hG
          rw [ntK_NT hR sk (h 23) w p]
          obtain ⟨⟨e1, e2, e3, e4⟩, x1, x2, x3, x4, x5, -⟩ := id Sk
          rw [sk.1 17 (by decide)] at x3
          rw [sk.1 2 (by decide)] at x4
          rw [sk.1 12 (by decide)] at x5
          rw [e2, e4]
          unfold NT nt
          have z3 : sm (ledJ (h 13) (h 14) (k 106) w p) (h 12 1).toNat = sm (ledJ (h 13) (h 14) (st1 (h 15) j l) w p) (h 12 1).toNat := sm_c (fun i hi => ledJ_l (x5 i (by omega)))
          have z4 : sm (ledP (h 18) (h 19) (h 20) (k 107) w p) (h 17 1).toNat = sm (ledP (h 18) (h 19) (h 20) (h 21) w p) (h 17 1).toNat := sm_c (fun i hi => ledP_z (x3 i (by omega)))
          have z5 : exK k p = if h 62 t = p then h 63 t else 0 := by
            unfold exK
            rw [k84, k85]
            by_cases c : h 62 t = p
            · rw [if_pos c, if_pos c.symm]
            · rw [if_neg c, if_neg (fun x => c x.symm)]
          have z6 : k 111 p = 2 := by rw [x4 p (by omega)]; exact hd p (by omega)
          rw [z3, z4]
          simp only [z5, z6]
        have W := GR_w G2 (h 64 t).toNat (by omega)
        exact an_i x64.1 (by omega) (H k2 _ s2' W.1 W.2.1 W.2.2)
      · rw [k9] at hq
        rw [k105 q hq]; decide
      · rw [k9] at hq
        rw [k105 q hq]
        exact (hw q (by rw [k9]; exact hq)).2.1
    | succ c ih =>
      intro i hi g sg hdr h105
      obtain ⟨dr, S, hd⟩ := hdr
      have e9 : g 69 9 = h 2 0 := n_scr hR sg
      refine b206_8 (br_i (fun q => absurd q (by rw [e9]; omega)) (fun _ => an_i (by omega) (by omega) (an_i (by omega) (by omega) ?_)))
      rw [w32_n (by omega)]
      simp only [Int.toNat_natCast]
      refine ih (i + 1) (by omega) _ (SCR_u (SCR_u sg (by decide)) (by decide)) ⟨st1 dr i 2, ?_, fun p hp => ?_⟩ (fun p hp => ?_)
      · obtain ⟨e, x1, x2, x3, x4, x5, x6, x7⟩ := S
        unfold SCM
        simp only [up_p, ne_eq, Nat.reduceEqDiff, not_false_eq_true, up_st]
        refine ⟨e, x1, x2, x3, fun p hp => ?_, x5, x6, x7⟩
        unfold st1
        split
        · rfl
        · exact x4 p hp
      · unfold st1
        split
        · rfl
        · exact hd p (by omega)
      · rw [up_st, up_p (by decide)]
        unfold st1
        split
        · rfl
        · exact h105 p (by omega)
  exact L (h 2 0).toNat 0 (by omega) g0 (LAY_r hL) ⟨h 9, S0, fun p hp => absurd hp (by omega)⟩ (fun p hp => absurd hp (by omega))
end P49
