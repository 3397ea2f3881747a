/-! pairs: thaws, thaw -/
def nxF (w a b fz : Nat → Int) (fr : Int) : Nat → Nat → Int
  | 0, _ => -9
  | m + 1, k => if ¬ fz k = 0 ∧ fr ≤ w (a k).toNat ∧ fr ≤ w (b k).toNat then (k : Int) else nxF w a b fz fr m (k + 1)
theorem nxF_y {w a b fz : Nat → Int} {fr : Int} {m k : Nat} (c : ¬ fz k = 0 ∧ fr ≤ w (a k).toNat ∧ fr ≤ w (b k).toNat) : nxF w a b fz fr (m + 1) k = k := if_pos c
theorem nxF_n {w a b fz : Nat → Int} {fr : Int} {m k : Nat} (c : ¬ (¬ fz k = 0 ∧ fr ≤ w (a k).toNat ∧ fr ≤ w (b k).toNat)) : nxF w a b fz fr (m + 1) k = nxF w a b fz fr m (k + 1) := if_neg c
theorem nx_r {w a b fz : Nat → Int} {fr : Int} : ∀ m k : Nat, nxF w a b fz fr m k = -9 ∨ ∃ v : Nat, nxF w a b fz fr m k = v ∧ v < k + m ∧ ¬ fz v = 0
  | 0, _ => Or.inl rfl
  | m + 1, k => by
    by_cases c : ¬ fz k = 0 ∧ fr ≤ w (a k).toNat ∧ fr ≤ w (b k).toNat
    · rw [nxF_y c]
      exact Or.inr ⟨k, rfl, by omega, c.1⟩
    · rw [nxF_n c]
      rcases nx_r (w := w) (a := a) (b := b) (fz := fz) (fr := fr) m (k + 1) with e | ⟨v, e1, e2, e3⟩
      · exact Or.inl e
      · exact Or.inr ⟨v, e1, by omega, e3⟩
theorem nx_0 {w a b fz : Nat → Int} {fr : Int} : ∀ m k : Nat, (∀ j, j < k + m → fz j = 0) → nxF w a b fz fr m k = -9 := fun m k H => by
  rcases nx_r (w := w) (a := a) (b := b) (fz := fz) (fr := fr) m k with e | ⟨v, e1, e2, e3⟩
  · exact e
  · exact absurd (H v e2) e3
noncomputable def RFZ (h : HP) (hr : Nat) (fz : Nat → Int) : Nat → Int := RV h (h 34 hr) (h 30 5) 100 100 (h 25) (hnF h) fz (h 9) (h 23) (h 15) z0F
noncomputable def NXT (h : HP) (hr : Nat) (fz : Nat → Int) : Int := nxF (RFZ h hr fz) (h 18) (h 19) fz (h 30 6) (h 17 1).toNat 0
theorem NXT_s {h g : HP} (a : SCR h g) {hr : Nat} {fz : Nat → Int} : NXT g hr fz = NXT h hr fz := by
  unfold NXT RFZ
  rw [RV_s a, hnF_s a, a.1 34 (by decide), a.1 30 (by decide), a.1 25 (by decide), a.1 9 (by decide), a.1 23 (by decide), a.1 15 (by decide), a.1 18 (by decide), a.1 19 (by decide), a.1 17 (by decide)]
def fzS (nx : (Nat → Int) → Int) (fz : Nat → Int) : Nat → (Nat → Int)
  | 0 => fz
  | i + 1 => st1 (fzS nx fz i) (nx (fzS nx fz i)).toNat 0
noncomputable def VX (h : HP) (hr : Nat) (i : Nat) : Int := NXT h hr (fzS (NXT h hr) (h 21) i)
theorem VX_s {h g : HP} (a : SCR h g) {hr i : Nat} : VX g hr i = VX h hr i := by
  unfold VX
  have : NXT g hr = NXT h hr := funext (fun fz => NXT_s a)
  rw [this, a.1 21 (by decide)]
def isN (V : Nat → Int) (N : Nat) : Prop := (∀ j, j < N → 0 ≤ V j) ∧ V N < 0
theorem isN_u {V : Nat → Int} {N M : Nat} (h1 : isN V N) (h2 : isN V M) : N = M := by
  rcases Nat.lt_trichotomy N M with c | c | c
  · have := h2.1 N c
    have := h1.2
    omega
  · exact c
  · have := h1.1 M c
    have := h2.2
    omega
def cfz (fz : Nat → Int) (n : Nat) : Int := sm (fun k => if fz k = 0 then 0 else 1) n
theorem cfz_st {fz : Nat → Int} {v n : Nat} (hv : v < n) (hz : ¬ fz v = 0) : cfz (st1 fz v 0) n = cfz fz n - 1 := by
  unfold cfz
  have e : (fun k => if st1 fz v 0 k = 0 then (0 : Int) else 1) = st1 (fun k => if fz k = 0 then 0 else 1) v 0 := by
    funext k
    unfold st1
    by_cases c : k = v
    · simp [c]
    · simp [c]
  rw [e, sm_st hv]
  simp only [hz, if_false]
  omega
theorem cfz_r (fz : Nat → Int) (n : Nat) : 0 ≤ cfz fz n ∧ cfz fz n ≤ n := by
  have := sm_b (f := fun k => if fz k = 0 then (0 : Int) else 1) (n := n) (a := 0) (b := 1) (fun j _ => by
    show _ ≤ (if _ then (0 : Int) else 1) ∧ (if _ then (0 : Int) else 1) ≤ _
    split <;> omega)
  unfold cfz
  omega
/-- how many may still thaw -/
theorem VX_c {h : HP} (hR : R h) {hr : Nat} : ∀ t : Nat, (∀ j, j < t → 0 ≤ VX h hr j) → cfz (fzS (NXT h hr) (h 21) t) (h 17 1).toNat + t ≤ 8
  | 0, _ => by
    have := cfz_r (h 21) (h 17 1).toNat
    have := (R_cnt hR).2.2.2.1
    show cfz (h 21) _ + 0 ≤ 8
    omega
  | t + 1, H => by
    have ih := VX_c hR t (fun j hj => H j (by omega))
    have hv := H t (by omega)
    rcases nx_r (w := RFZ h hr (fzS (NXT h hr) (h 21) t)) (a := h 18) (b := h 19) (fz := fzS (NXT h hr) (h 21) t) (fr := h 30 6) (h 17 1).toNat 0 with e | ⟨v, e1, e2, e3⟩
    · have : VX h hr t = -9 := e
      omega
    · have e4 : NXT h hr (fzS (NXT h hr) (h 21) t) = v := e1
      show cfz (st1 (fzS (NXT h hr) (h 21) t) (NXT h hr (fzS (NXT h hr) (h 21) t)).toNat 0) _ + ((t + 1 : Nat) : Int) ≤ 8
      rw [e4, Int.toNat_natCast, cfz_st (by omega) e3]
      omega
theorem VX_9 {h : HP} (hR : R h) {hr : Nat} (H : ∀ j, j < 8 → 0 ≤ VX h hr j) : VX h hr 8 < 0 := by
  have c := VX_c hR 8 H
  rcases nx_r (w := RFZ h hr (fzS (NXT h hr) (h 21) 8)) (a := h 18) (b := h 19) (fz := fzS (NXT h hr) (h 21) 8) (fr := h 30 6) (h 17 1).toNat 0 with e | ⟨v, e1, e2, e3⟩
  · have : VX h hr 8 = -9 := e
    omega
  · have c1 := cfz_st (fz := fzS (NXT h hr) (h 21) 8) (show v < (h 17 1).toNat by omega) e3
    have c2 := cfz_r (st1 (fzS (NXT h hr) (h 21) 8) v 0) (h 17 1).toNat
    omega
def oSet (g k : HP) : Prop := ∀ q, (q < 41 ∨ 51 < q) → k q = g q
theorem SCT_oS {h g k : HP} (a : SCT h g) (f : oSet g k) : SCT h k := ⟨fun q h1 h2 h3 hq => by
    by_cases c : q < 41 ∨ 51 < q
    · rw [f q c]; exact a.1 q h1 h2 h3 hq
    · omega, fun j hj h1 h2 => by rw [f 69 (by decide)]; exact a.2 j hj h1 h2⟩
theorem SCR_oS {h g k : HP} (a : SCR h g) (f : oSet g k) : SCR h k := SCR_o a (fun q hq => f q (by omega))
section P47
variable {d : Nat} {h : HP} {Q : PV → HP → Prop} {v1 v2 v3 v4 n m : Int}
set_option maxHeartbeats 4000000 in
theorem c_thaw1 {g : HP} {hr : Nat} {fz : Nat → Int} (hR : R h) (a : SCT h g) (hS : SCE g (h 34 hr) (h 30 5) 100 100 (h 25) (hnF h) fz (h 9) (h 23) (h 15) z0F) (H1 : NXT h hr fz < 0 → ∀ k, oSet g k → SCE k (h 34 hr) (h 30 5) 100 100 (h 25) (hnF h) fz (h 9) (h 23) (h 15) z0F → Q (I (-9)) k) (H2 : ∀ v : Nat, NXT h hr fz = v → v < 8 → ∀ k, oSet g k → SCE k (h 34 hr) (h 30 5) 100 100 (h 25) (hnF h) (st1 fz v 0) (h 9) (h 23) (h 15) z0F → Q (I (v : Int)) k) : X (d + 5) 64 0 [some (P 41), none, none] [] g Q := by
  obtain ⟨-, n8, -, p8, -⟩ := R_cnt hR
  have e2 : g 2 = h 2 := SCT_c a (by decide) (by decide)
  have e17 : g 17 = h 17 := SCT_c a (by decide) (by decide)
  have lp := lnk_p (RK_of hR (SCT_of (SCR_r h)))
  have sfz : ∀ k : Nat, (k : Int) < h 17 1 → (bR (g 41 8) k = 0 ↔ fz k = 0) := fun k hk => hS.2.2.2.1 k (by rw [e17]; exact hk)
  have rfz : 0 ≤ g 41 8 ∧ g 41 8 < 256 := hS.2.2.2.2.2.2.2.1.2.2.1
  refine b64_0 (br_i (fun q0 => ?_) (fun q0 => ?_))
  · refine c_scT hR a hS (fun k fk hk => b64_14 ?_)
    rw [e2] at hk
    have ak : SCT h k := SCT_t a (SCR_FS (SCR_r g) fk)
    have Sk := SCE_FS fk hS
    have k41 : k 41 = g 41 := fk 41 (by decide)
    have f5 : oSet g k := fun q hq => fk q (by omega)
    have L : ∀ c i : Nat, i + c = (h 17 1).toNat → NXT h hr fz = nxF (RFZ h hr fz) (h 18) (h 19) fz (h 30 6) c i → X (d + 5) 64 16 [some (P 41), some (I i), none] [] k Q := by
      intro c
      induction c with
      | zero =>
        intro i hi e
        refine b64_16 (br_i (fun _ => H1 ?_ k f5 Sk) (fun q => absurd (by rw [SCT_c ak (q := 17) (by decide) (by decide)]; omega) q))
        rw [e]
        show (-9 : Int) < 0
        decide
      | succ c ih =>
        intro i hi e
        obtain ⟨x0, x1, y0, y1, -, -, -⟩ := lp i (by omega)
        have wa := hk (h 18 i).toNat (by omega)
        have wb := hk (h 19 i).toNat (by omega)
        refine b64_16 (br_i (fun q => absurd q (by rw [SCT_c ak (q := 17) (by decide) (by decide)]; omega)) (fun _ => ?_))
        rw [k41, bit_c rfz.1 (by omega) (by omega) (by omega), SCT_c ak (q := 18) (by decide) (by decide), SCT_c ak (q := 19) (by decide) (by decide)]
        simp only [Int.toNat_natCast]
        have hb := sfz i (by omega)
        rw [bR_c] at hb
        have N : ¬ (¬ fz i = 0 ∧ h 30 6 ≤ RFZ h hr fz (h 18 i).toNat ∧ h 30 6 ≤ RFZ h hr fz (h 19 i).toNat) → X (d + 5) 64 121 [some (P 41), some (I i), none] [] k Q := by
          intro cn
          refine b64_121 ?_
          rw [w32_n (by omega)]
          exact ih (i + 1) (by omega) (by rw [e, nxF_n cn])
        refine br_i (fun qb => an_i (by omega) (by omega) (an_i x0 (by omega) (an_i (by omega) (by omega) (an_i y0 (by omega) ?_)))) (fun qb => N (fun x => x.1 (hb.mp (by simpa using qb))))
        have qz : ¬ fz i = 0 := fun x => qb (hb.mpr x)
        have wa' : k 48 (h 18 i).toNat = RFZ h hr fz (h 18 i).toNat := wa.1
        have wb' : k 48 (h 19 i).toNat = RFZ h hr fz (h 19 i).toNat := wb.1
        rw [wa', wb']
        have M : ∀ u : Int, (h 30 6 ≤ u ↔ h 30 6 ≤ RFZ h hr fz (h 18 i).toNat ∧ h 30 6 ≤ RFZ h hr fz (h 19 i).toNat) → X (d + 5) 64 87 [some (P 41), some (I i), none] [I u] k Q := by
          intro u hu
          refine b64_87 ?_
          rw [SCT_c ak (q := 30) (by decide) (by decide), k41]
          refine br_i (fun q => ?_) (fun q => N (fun x => q (hu.mpr x.2)))
          have i8 : i < 8 := by omega
          have cl := bR_clr (x := g 41 8) (i := i) i8 rfz.1 rfz.2
          refine H2 i (by rw [e, nxF_y ⟨qz, hu.mp q⟩]) i8 _ (fun r hr2 => by rw [up_p (by omega)]; exact f5 r hr2) ?_
          refine SCE_fz cl.1.1 cl.1.2 (fun j hj => ?_) Sk
          rw [SCT_c ak (q := 17) (by decide) (by decide)] at hj
          rw [cl.2 j]
          exact st1_0 (sfz j hj)
        refine z225 (br_i (fun q => M _ ?_) (fun q => M _ ?_))
        · omega
        · omega
    exact L (h 17 1).toNat 0 (by omega) rfl
  · have q1 : g 41 8 = 0 := by
      by_cases c : g 41 8 = 0
      · exact c
      · exact absurd c q0
    refine H1 ?_ g (fun _ _ => rfl) hS
    unfold NXT
    rw [nx_0 _ _ (fun j hj => (sfz j (by omega)).mp (by rw [q1]; exact bR_0 j))]
    decide
def vThaws (v1 v2 : Int) : Prop := (0 ≤ v1 ∧ v1 < 12) ∧ 0 ≤ v2
def rThaws (h : HP) (hr i : Nat) (y : Int) : Prop := (y = VX h hr i ∧ ∀ j, j ≤ i → 0 ≤ VX h hr j) ∨ (y = -9 ∧ ∃ t, t ≤ i ∧ VX h hr t < 0)
theorem rThaws_u {hr i : Nat} {y z : Int} (h1 : rThaws h hr i y) (h2 : rThaws h hr i z) : y = z := by
  rcases h1 with ⟨a1, a2⟩ | ⟨a1, t, a2, a3⟩ <;> rcases h2 with ⟨b1, b2⟩ | ⟨b1, u, b2, b3⟩
  · rw [a1, b1]
  · have := a2 u b2
    omega
  · have := b2 t a2
    omega
  · rw [a1, b1]
theorem NXT_9 {hr : Nat} {fz : Nat → Int} : NXT h hr fz < 0 ∨ ∃ v : Nat, NXT h hr fz = v ∧ v < (h 17 1).toNat ∧ ¬ fz v = 0 := by
  rcases nx_r (w := RFZ h hr fz) (a := h 18) (b := h 19) (fz := fz) (fr := h 30 6) (h 17 1).toNat 0 with e | ⟨v, e1, e2, e3⟩
  · refine Or.inl ?_
    unfold NXT
    omega
  · exact Or.inr ⟨v, e1, by omega, e3⟩
set_option maxHeartbeats 4000000 in
theorem c_thaws (hR : R h) (H1 : vThaws v1 v2 → ∀ g y, SCR h g → rThaws h v1.toNat v2.toNat y → Q (I y) g) (H2 : (0 ≤ v1 ∧ v1 < 12) → v2 < 0 → Q (I (-4)) (rfC h (-4))) (H3 : ¬ (0 ≤ v1 ∧ v1 < 12) → Q (I (-1)) (rfC h (-1))) : X (d + 10) 114 0 [some (P 0), some (I v1), some (I v2), none, none] [] h Q := by
  by_cases hv : 0 ≤ v1 ∧ v1 < 12
  · by_cases hw : 0 ≤ v2
    · have HN := H1 ⟨hv, hw⟩
      obtain ⟨a0, a1⟩ := hv
      clear H1 H2 H3
      have L : ∀ c t : Nat, t + c = 9 → ∀ (g : HP) (pv : Int), SCR h g → SCE g (h 34 v1.toNat) (h 30 5) 100 100 (h 25) (hnF h) (fzS (NXT h v1.toNat) (h 21) t) (h 9) (h 23) (h 15) z0F → (∀ j, j < t → 0 ≤ VX h v1.toNat j) → t ≤ v2.toNat → X (d + 10) 114 40 [some (P 0), some (I v1), some (I v2), some (I pv), some (I (t : Int))] [] g Q := by
        intro c
        induction c with
        | zero =>
          intro t ht g pv sg hS hV hi
          have := VX_9 hR (fun j hj => hV j (by omega))
          have := hV 8 (by omega)
          omega
        | succ c ih =>
          intro t ht g pv sg hS hV hi
          refine b114_40 (br_i (fun q => absurd q (by omega)) (fun _ => br_i (fun q => absurd q (by omega)) (fun _ => ?_)))
          refine c_thaw1 hR (SCT_of sg) hS (fun hn k fk Sk => b114_60 (br_i (fun q => absurd rfl q) (fun _ => HN k _ (SCR_oS sg fk) (Or.inr ⟨rfl, t, hi, hn⟩)))) (fun v hn hv8 k fk Sk => b114_60 (br_i (fun _ => ?_) (fun q => absurd (by omega) q)))
          have e : VX h v1.toNat t = v := hn
          rw [w32_n (by omega)]
          by_cases ei : t = v2.toNat
          · refine b114_40 (br_i (fun _ => HN k _ (SCR_oS sg fk) (Or.inl ⟨by rw [← ei, e], fun j hj => ?_⟩)) (fun q => absurd (by omega) q))
            by_cases ej : j = t
            · subst ej; rw [e]; omega
            · exact hV j (by omega)
          · refine ih (t + 1) (by omega) k v (SCR_oS sg fk) ?_ (fun j hj => ?_) (by omega)
            · show SCE k _ _ _ _ _ _ (st1 _ (NXT h v1.toNat (fzS (NXT h v1.toNat) (h 21) t)).toNat 0) _ _ _ _
              rw [hn, Int.toNat_natCast]; exact Sk
            · by_cases ej : j = t
              · subst ej; rw [e]; omega
              · exact hV j (by omega)
      repeat' (first | (exfalso; omega) | (apply br_i <;> intro _) | apply b114_0 | apply z123 | apply b114_6 | apply an_i | decide | omega)
      exact c_asNow hR a0 a1 (fun g o hN => b114_34 (L 9 0 rfl g _ (o_scr o) (NOW_s hR o hN) (fun j hj => absurd hj (by omega)) (by omega)))
    · have HN := H2 hv (by omega)
      obtain ⟨a0, a1⟩ := hv
      clear H1 H2 H3
      repeat' (first | exact HN | (exfalso; omega) | (apply br_i <;> intro _) | apply b114_0 | apply z123 | apply b114_6 | apply z121 | apply b114_25 | apply an_i | decide | omega)
  · have HN := H3 hv
    clear H1 H2 H3
    repeat' (first | exact HN | (exfalso; omega) | (apply br_i <;> intro _) | apply b114_0 | apply z123 | apply b114_6 | apply z121 | apply b114_14 | apply an_i | decide | omega)
/-! the model: what thaws, in its order -/
set_option maxHeartbeats 4000000 in
theorem m_fthaw {g0 : HP} {hr : Int} (hR : R h) (a : SCT h g0) (a89 : g0 89 = h 89) (b0 : 0 ≤ hr) (b1 : hr < 12) (H : ∀ (N : Nat) k, isN (VX h hr.toNat) N → N ≤ 8 → SCR g0 k → k 69 92 = N → (∀ j, j < N → k 123 j = VX h hr.toNat j) → Q (I 0) k) : X (d + 5) 214 0 [some (P 69), some (I hr), none, none, none] [] g0 Q := by
  obtain ⟨⟨-, -, cn3, -⟩, n8, -, p8, -⟩ := R_cnt hR
  have lp := lnk_p (RK_of hR (SCT_of (SCR_r h)))
  have e86 : h 86 = h 18 ∧ h 87 = h 19 ∧ h 69 37 = h 30 6 := by
    obtain ⟨⟨r1, r2, r3, r4, r5, r6, r7, r8⟩, ⟨r9, r10, r11, r12, r13⟩, ⟨r14, r15, r16, r17, r18, r19, r20⟩, ⟨r21, r22, r23, r24, r25, r26⟩, ⟨r27, r28, r29, r30, r31⟩, ⟨r32, r33⟩, ⟨r34, r35, r36, r37, r38, r39, r40, r41, r42, r43, r44, r45⟩, ⟨r46, r47, r48⟩, ⟨r49, r50, r51, r52, r53, r54, r55⟩, ⟨r56, r57, r58, r59, r60, r61, r62, r63, r64, r65⟩, ⟨r66, r67, r68, r69, r70, r71, r72, r73, r74, r75⟩, ⟨r76, r77, r78, r79, r80, r81, r82, r83⟩, ⟨r84, r85, r86, r87, r88, r89⟩, ⟨r90, r91, r92, r93, r94, r95, r96, r97, r98⟩, ⟨r99, r100, r101, r102, r103, r104, r105, r106⟩, ⟨r107, r108, r109, r110, r111, r112, r113⟩, ⟨r114, r115, r116, r117, r118, r119, r120, r121, r122, r123⟩⟩ := id hR
    exact ⟨r17.symm, r18.symm, r41.symm⟩
  have L : ∀ c t : Nat, t + c = 9 → ∀ (g : HP), SCR g0 g → SCM g (h 34 hr.toNat) (h 30 5) 100 100 (h 25) (hnF h) (fzS (NXT h hr.toNat) (h 21) t) (h 9) (h 23) (h 15) → (∀ j, j < t → 0 ≤ VX h hr.toNat j) → g 69 92 = t → (∀ j, j < t → g 123 j = VX h hr.toNat j) → X (d + 5) 214 12 [some (P 69), some (I hr), some (I 1), none, none] [] g Q := by
    intro c
    induction c with
    | zero =>
      intro t ht g sg hS hV h92 h123
      have := VX_9 hR (fun j hj => hV j (by omega))
      have := hV 8 (by omega)
      omega
    | succ c ih =>
      intro t ht g sg hS hV h92 h123
      have at' : SCT h g := SCT_t a sg
      refine b214_12 (br_i (fun q => absurd q (by decide)) (fun _ => m_scT hR at' hS (fun k ok hk => b214_20 ?_)))
      have sk : SCR g0 k := SCR_105 sg ok
      have ak : SCT h k := SCT_t a sk
      have Sk := SCM_105 ok hS
      have e22 : k 69 22 = h 17 1 := by rw [ak.2 22 rfl (by decide) (by decide)]; exact cn3
      have k92 : k 69 92 = t := by rw [ok 69 (by decide)]; exact h92
      have k123 : ∀ j, j < t → k 123 j = VX h hr.toNat j := by rw [ok 123 (by decide)]; exact h123
      have E : VX h hr.toNat t = NXT h hr.toNat (fzS (NXT h hr.toNat) (h 21) t) := rfl
      have M : ∀ i : Nat, i ≤ (h 17 1).toNat → ∀ v3, v3 = nxF (RFZ h hr.toNat (fzS (NXT h hr.toNat) (h 21) t)) (h 18) (h 19) (fzS (NXT h hr.toNat) (h 21) t) (h 30 6) ((h 17 1).toNat - i) i → X (d + 5) 214 31 [some (P 69), some (I hr), some (I 1), some (I v3), some (I ((i : Int) - 1))] [] k Q := by
        intro i
        induction i with
        | zero =>
          intro hi v3 e3
          have e4 : v3 = VX h hr.toNat t := e3
          refine b214_31 (br_i (fun _ => br_i (fun q => b214_106 (br_i (fun _ => b214_138 (b214_12 (br_i (fun _ => ?_) (fun x => absurd rfl x)))) (fun x => absurd rfl x))) (fun q => b214_106 (br_i (fun x => absurd x (by decide)) (fun _ => ?_)))) (fun q => absurd (by omega) q))
          · exact H t k ⟨hV, by omega⟩ (by omega) sk k92 k123
          · rcases NXT_9 (h := h) (hr := hr.toNat) (fz := fzS (NXT h hr.toNat) (h 21) t) with e5 | ⟨v, e5, e6, e7⟩
            · omega
            · have e8 : v3 = v := by omega
              subst e8
              have t8 : t < 8 := by
                by_cases c : t < 8
                · exact c
                · have := VX_9 hR (fun j hj => hV j (by omega))
                  have e9 : t = 8 := by omega
                  subst e9
                  omega
              rw [k92]
              refine an_i (by omega) (by omega) (an_i (by omega) (by omega) (b214_138 ?_))
              rw [w32_n (by omega)]
              simp only [Int.toNat_natCast]
              refine ih (t + 1) (by omega) _ (SCR_m (SCR_u (SCR_u sk (by decide)) (by decide)) rfl) ?_ (fun j hj => ?_) (by rw [up_s]) (fun j hj => ?_)
              · have S2 := SCM_fz (k := v) (v := 0) Sk
                have S3 : SCM (up2 (up2 (up2 k 107 v 0) 123 t (v : Int)) 69 92 ((t + 1 : Nat) : Int)) (h 34 hr.toNat) (h 30 5) 100 100 (h 25) (hnF h) (st1 (fzS (NXT h hr.toNat) (h 21) t) v 0) (h 9) (h 23) (h 15) := by
                  unfold SCM at S2 ⊢
                  simp only [up_p, up_i, ne_eq, Nat.reduceEqDiff, not_false_eq_true] at S2 ⊢
                  exact S2
                show SCM _ _ _ _ _ _ _ (st1 _ (NXT h hr.toNat (fzS (NXT h hr.toNat) (h 21) t)).toNat 0) _ _ _
                rw [e5, Int.toNat_natCast]; exact S3
              · by_cases ej : j = t
                · subst ej; rw [E, e5]; omega
                · exact hV j (by omega)
              · rw [up_p (by decide), up_st, up_p (by decide)]
                by_cases ej : j = t
                · subst ej; rw [st1_s, E, e5]
                · rw [st1_n ej]; exact k123 j (by omega)
        | succ i ihi =>
          intro hi v3 e3
          have ei : (((i + 1 : Nat) : Int) - 1) = (i : Int) := by omega
          rw [ei]
          obtain ⟨x0, x1, y0, y1, -, -, -⟩ := lp i (by omega)
          have wa := (hk (h 18 i).toNat (by omega)).1
          have wb := (hk (h 19 i).toNat (by omega)).1
          have wa' : k 105 (h 18 i).toNat = RFZ h hr.toNat (fzS (NXT h hr.toNat) (h 21) t) (h 18 i).toNat := wa
          have wb' : k 105 (h 19 i).toNat = RFZ h hr.toNat (fzS (NXT h hr.toNat) (h 21) t) (h 19 i).toNat := wb
          have z := Sk.2.2.2.1 i (by rw [SCT_c ak (q := 17) (by decide) (by decide)]; omega)
          have es : (h 17 1).toNat - i = ((h 17 1).toNat - (i + 1)) + 1 := by omega
          have W : ∀ u, u = nxF (RFZ h hr.toNat (fzS (NXT h hr.toNat) (h 21) t)) (h 18) (h 19) (fzS (NXT h hr.toNat) (h 21) t) (h 30 6) ((h 17 1).toNat - i) i → X (d + 5) 214 90 [some (P 69), some (I hr), some (I 1), some (I v3), some (I (i : Int))] [I u] k Q := by
            intro u hu
            refine b214_90 ?_
            have e5 : w32 ((i : Int) + (-1)) = (i : Int) - 1 := by rw [w32_of (by omega) (by omega)]; omega
            rw [e5]
            exact ihi (by omega) u hu
          have Wn : ¬ (¬ fzS (NXT h hr.toNat) (h 21) t i = 0 ∧ h 30 6 ≤ RFZ h hr.toNat (fzS (NXT h hr.toNat) (h 21) t) (h 18 i).toNat ∧ h 30 6 ≤ RFZ h hr.toNat (fzS (NXT h hr.toNat) (h 21) t) (h 19 i).toNat) → X (d + 5) 214 89 [some (P 69), some (I hr), some (I 1), some (I v3), some (I (i : Int))] [] k Q := by
            intro cn
            refine b214_89 (W _ ?_)
            rw [es, nxF_n cn]; exact e3
          refine b214_31 (br_i (fun q => absurd q (by omega)) (fun _ => an_i (by omega) (by omega) ?_))
          rw [SCT_m ak (q := 86) (by decide) (by decide) (by decide), SCT_m ak (q := 87) (by decide) (by decide) (by decide), e86.1, e86.2.1, ak.2 37 rfl (by decide) (by decide), e86.2.2]
          simp only [Int.toNat_natCast]
          rw [wa', wb']
          refine br_i (fun q => Wn (fun x => x.1 (z.mp q))) (fun q => an_i (by omega) (by omega) (an_i x0 (by omega) (br_i (fun q2 => Wn (fun x => by omega)) (fun q2 => an_i (by omega) (by omega) (an_i y0 (by omega) (br_i (fun q3 => Wn (fun x => by omega)) (fun q3 => W _ ?_)))))))
          rw [es, nxF_y ⟨fun x => q (z.mpr x), by omega, by omega⟩]
      have := M (h 17 1).toNat (Nat.le_refl _) (-9) (by rw [Nat.sub_self]; rfl)
      rw [e22]
      have e6 : w32 (h 17 1 - 1) = (((h 17 1).toNat : Nat) : Int) - 1 := by rw [w32_of (by omega) (by omega)]; omega
      rw [e6]
      exact this
  refine b214_0 (m_layT hR a a89 b0 b1 (fun g hL => b214_5 ?_))
  have S := LAY_sT hR a a89 hL
  refine L 9 0 rfl _ (SCR_m (LAY_r hL) rfl) ?_ (fun j hj => absurd hj (by omega)) (by rw [up_s]; rfl) (fun j hj => absurd hj (by omega))
  unfold SCM at S ⊢
  simp only [up_p, up_i, ne_eq, Nat.reduceEqDiff, not_false_eq_true] at S ⊢
  exact S
set_option maxHeartbeats 4000000 in
theorem m_thaws (H1 : vThaws v1 v2 → R h ∧ ∀ g y, SCR h g → rThaws h v1.toNat v2.toNat y → Q (I y) g) (H2 : (0 ≤ v1 ∧ v1 < 12) → v2 < 0 → Q (I (-4)) (rfM h (-4))) (H3 : ¬ (0 ≤ v1 ∧ v1 < 12) → Q (I (-1)) (rfM h (-1))) : X (d + 10) 215 0 [some (P 69), some (I v1), some (I v2)] [] h Q := by
  by_cases hv : 0 ≤ v1 ∧ v1 < 12
  · by_cases hw : 0 ≤ v2
    · obtain ⟨hR, HN⟩ := H1 ⟨hv, hw⟩
      obtain ⟨a0, a1⟩ := hv
      clear H1 H2 H3
      repeat' (first | (exfalso; omega) | (apply br_i <;> intro _) | apply b215_0 | apply z137 | apply b215_4 | apply an_i | decide | omega)
      refine m_fthaw hR (SCT_of (SCR_r h)) rfl a0 a1 (fun N k hN hN8 sk k92 k123 => b215_29 ?_)
      rw [k92]
      refine br_i (fun q => HN k _ sk (Or.inr ⟨rfl, N, by omega, hN.2⟩)) (fun q => an_i hw (by omega) (HN k _ sk (Or.inl ⟨k123 v2.toNat (by omega), fun j hj => hN.1 j (by omega)⟩)))
    · have HN := H2 hv (by omega)
      obtain ⟨a0, a1⟩ := hv
      clear H1 H2 H3
      repeat' (first | exact HN | (exfalso; omega) | (apply br_i <;> intro _) | apply b215_0 | apply z137 | apply b215_4 | apply z135 | apply b215_23 | apply an_i | decide | omega)
  · have HN := H3 hv
    clear H1 H2 H3
    repeat' (first | exact HN | (exfalso; omega) | (apply br_i <;> intro _) | apply b215_0 | apply z137 | apply b215_4 | apply z135 | apply b215_12 | apply an_i | decide | omega)
theorem p_thaws (hR : R h) : X (d + 10) 114 0 [some (P 0), some (I v1), some (I v2), none, none] [] h (fun r h1 => X (d + 10) 215 0 [some (P 69), some (I v1), some (I v2)] [] h1 (fun r' h2 => EQA r r' h2)) :=
  c_thaws hR (fun hv g y sg ey => m_thaws (fun _ => ⟨R_scr sg hR, fun g2 y2 s2 ey2 => ⟨by
      have e : VX g v1.toNat = VX h v1.toNat := funext (fun i => VX_s sg)
      unfold rThaws at ey2
      rw [e] at ey2
      rw [rThaws_u ey ey2], R_scr s2 (R_scr sg hR)⟩⟩) (fun _ hn => absurd hv.2 (by omega)) (fun hn => absurd hv.1 hn))
    (fun hv hn => m_thaws (fun hw => absurd hw.2 (by omega)) (fun _ _ => EQA_rf hR) (fun hn => absurd hv hn))
    (fun hn => m_thaws (fun hv => absurd hv.1 hn) (fun hv => absurd hv hn) (fun _ => EQA_rf hR))
end P47
