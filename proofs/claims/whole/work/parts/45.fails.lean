/-! pairs: fails, share -/
section P45
variable {d : Nat} {h : HP} {Q : PV → HP → Prop} {v1 v2 v3 v4 n m : Int}
theorem bR_or {x : Int} {i : Nat} (hi : i < 8) (x0 : 0 ≤ x) (x1 : x < 256) : (0 ≤ bOr x (bShl 1 (i : Int)) ∧ bOr x (bShl 1 (i : Int)) < 256) ∧ ∀ k, (bR (bOr x (bShl 1 (i : Int))) k = 0 ↔ st1 (bR x) i 1 k = 0) := by
  obtain ⟨u, e, u0, u1, ub⟩ := set_b hi x0 x1
  rw [← e]
  refine ⟨⟨u0, u1⟩, fun k => ?_⟩
  rw [bR_c, ub k]
  unfold st1
  by_cases c : k = i
  · subst c
    rw [if_pos rfl]
    simp
  · rw [if_neg c, bR_c]
    have : decide (i = k) = false := by simp; exact fun x => c x.symm
    rw [this]; simp
theorem bR_clr {x : Int} {i : Nat} (hi : i < 8) (x0 : 0 ≤ x) (x1 : x < 256) : (0 ≤ bAnd x (bXor (bShl 1 (i : Int)) (-1)) ∧ bAnd x (bXor (bShl 1 (i : Int)) (-1)) < 256) ∧ ∀ k, (bR (bAnd x (bXor (bShl 1 (i : Int)) (-1))) k = 0 ↔ st1 (bR x) i 0 k = 0) := by
  obtain ⟨u, e, u0, u1, ub⟩ := op_n (n := 8) (op := x) (i := i) (by decide) x0 (by rw [e256]; exact x1) hi
  rw [e256] at u1
  rw [← e]
  refine ⟨⟨u0, u1⟩, fun k => ?_⟩
  rw [bR_c, ub k]
  unfold st1
  by_cases c : k = i
  · subst c
    rw [if_pos rfl]
    simp
  · rw [if_neg c, bR_c]
    have : decide (i = k) = false := by simp; exact fun x => c x.symm
    rw [this]; simp
theorem st1_0 {f g : Nat → Int} {i k : Nat} {v : Int} (e : f k = 0 ↔ g k = 0) : st1 f i v k = 0 ↔ st1 g i v k = 0 := by
  unfold st1
  split
  · exact Iff.rfl
  · exact e
def failF (w least most : Nat → Int) : Nat → Nat → Int
  | 0, _ => -9
  | k + 1, p => if least p ≤ w p ∧ w p ≤ most p then failF w least most k (p + 1) else p
noncomputable def RBN (h : HP) (hr : Nat) (bn : Nat → Int) : Nat → Int := RV h (h 34 hr) (h 30 5) 100 100 (h 25) bn (h 21) (h 9) (h 23) (h 15) z0F
theorem RBN_s {g : HP} (a : SCR h g) {hr : Nat} {bn : Nat → Int} : RBN g hr bn = RBN h hr bn := by
  unfold RBN
  rw [RV_s a, a.1 34 (by decide), a.1 30 (by decide), a.1 25 (by decide), a.1 21 (by decide), a.1 9 (by decide), a.1 23 (by decide), a.1 15 (by decide)]
def vFail (m v1 v3 : Int) : Prop := 0 ≤ v1 ∧ v1 < m ∧ 0 ≤ v3 ∧ v3 < 12
set_option maxHeartbeats 4000000 in
theorem c_fails (hR : R h) (hz : v2 = 0 ∨ v2 = 1) (H1 : vFail (h 26 2) v1 v3 → ∀ g y, SCR h g → y = failF (RBN h v3.toNat (st1 (hnF h) v1.toNat v2)) (h 10) (h 11) (h 2 0).toNat 0 → Q (I y) g) (H2 : ¬ vFail (h 26 2) v1 v3 → Q (I (-1)) (rfC h (-1))) : X (d + 10) 112 0 [some (P 0), some (I v1), some (I v2), some (I v3), none, none, none] [] h Q := by
  by_cases hv : vFail (h 26 2) v1 v3
  · have HN := H1 hv
    obtain ⟨a0, a1, b0, b1⟩ := hv
    clear H1 H2
    have cn := R_cnt hR
    have L : ∀ k i : Nat, i + k = (h 2 0).toNat → ∀ (g : HP) (v4 : Int), SCR h g → isW (g 48) (RBN h v3.toNat (st1 (hnF h) v1.toNat v2)) (h 2 0) → (∀ g y, SCR h g → y = failF (RBN h v3.toNat (st1 (hnF h) v1.toNat v2)) (h 10) (h 11) k i → Q (I y) g) → X (d + 10) 112 91 [some (P 0), some (I v1), some (I v2), some (I v3), some (I v4), some (I i), none] [] g Q := by
      intro k
      induction k with
      | zero =>
        intro i hi g v4 sg hW HQ
        exact b112_91 (br_i (fun _ => HQ g _ sg rfl) (fun q => absurd (by rw [sg.1 2 (by decide)]; omega) q))
      | succ k ih =>
        intro i hi g v4 sg hW HQ
        have e := (hW i (by omega)).1
        refine b112_91 (br_i (fun q => absurd q (by rw [sg.1 2 (by decide)]; omega)) (fun _ => an_i (by omega) (by omega) (an_i (by omega) (by omega) ?_)))
        rw [sg.1 10 (by decide), sg.1 11 (by decide)]
        simp only [Int.toNat_natCast]
        rw [e]
        refine br_i (fun q => HQ g _ sg ?_) (fun q => an_i (by omega) (by omega) (br_i (fun q2 => ?_) (fun q2 => HQ g _ sg ?_)))
        · show _ = (if _ then _ else _)
          rw [if_neg (by omega)]
        · rw [w32_n (by omega)]
          refine ih (i + 1) (by omega) g v4 sg hW (fun g y s ey => HQ g y s ?_)
          rw [ey]
          show _ = (if _ then _ else _)
          rw [if_pos ⟨by omega, q2⟩]
        · show _ = (if _ then _ else _)
          rw [if_neg (by omega)]
    repeat' (first | (exfalso; omega) | (apply br_i <;> intro _) | apply b112_0 | apply b112_14 | apply z123 | apply b112_23 | apply an_i | decide | omega)
    refine c_asNow hR b0 b1 (fun g o hN => b112_40 ?_)
    have S := NOW_s hR o hN
    have sg := o_scr o
    have F : ∀ v, (0 ≤ v ∧ v < 256) → (∀ k : Nat, (k : Int) < g 26 2 → (bR v k = 0 ↔ st1 (hnF h) v1.toNat v2 k = 0)) → X (d + 10) 112 78 [some (P 0), some (I v1), some (I v2), some (I v3), some (I (bShl 1 v1)), none, none] [I v, P 41] g Q := by
      intro v hv0 hv1
      refine b112_78 ?_
      have s2 : SCR h (up2 g 41 7 v) := SCR_u sg (by decide)
      refine c_sc (R_scr s2 hR) s2 (SCE_bn hv0.1 hv0.2 hv1 S) (fun k f hk => b112_88 ?_)
      rw [s2.1 2 (by decide)] at hk
      exact L (h 2 0).toNat 0 (by omega) k _ (SCR_FS s2 f) hk HN
    have hx : 0 ≤ g 41 7 ∧ g 41 7 < 256 := S.2.2.2.2.2.2.2.1.2.1
    have ev : v1 = ((v1.toNat : Nat) : Int) := by omega
    refine br_i (fun q => ?_) (fun q => ?_)
    · have cl := bR_clr (x := g 41 7) (i := v1.toNat) (by omega) hx.1 hx.2
      rw [← ev] at cl
      exact F _ cl.1 (fun k hk => by rw [cl.2 k, q]; exact st1_0 (S.2.2.1 k hk))
    · have cl := bR_or (x := g 41 7) (i := v1.toNat) (by omega) hx.1 hx.2
      rw [← ev] at cl
      have q1 : v2 = 1 := by omega
      exact F _ cl.1 (fun k hk => by rw [cl.2 k, q1]; exact st1_0 (S.2.2.1 k hk))
  · have HN := H2 hv
    unfold vFail at hv
    clear H1 H2
    repeat' (first | exact HN | (exfalso; omega) | (apply br_i <;> intro _) | apply b112_0 | apply b112_14 | apply z123 | apply b112_23 | apply b112_26 | apply z121 | apply b112_31 | apply an_i | decide | omega)
set_option maxHeartbeats 4000000 in
theorem m_fails (e30 : h 69 30 = m) (hz : v2 = 0 ∨ v2 = 1) (H1 : vFail m v1 v3 → R h ∧ ∀ g y, SCR h g → y = failF (RBN h v3.toNat (st1 (hnF h) v1.toNat v2)) (h 10) (h 11) (h 2 0).toNat 0 → Q (I y) g) (H2 : ¬ vFail m v1 v3 → Q (I (-1)) (rfM h (-1))) : X (d + 10) 212 0 [some (P 69), some (I v1), some (I v2), some (I v3), none] [] h Q := by
  by_cases hv : vFail m v1 v3
  · obtain ⟨hR, HN⟩ := H1 hv
    obtain ⟨a0, a1, b0, b1⟩ := hv
    clear H1 H2
    obtain ⟨⟨cn1, -, -, -, cn5⟩, cn3, -, -, -, cn4⟩ := R_cnt hR
    have e77 : h 77 = h 10 ∧ h 78 = h 11 := by
      obtain ⟨⟨r1, r2, r3, r4, r5, r6, r7, r8⟩, ⟨r9, r10, r11, r12, r13⟩, ⟨r14, r15, r16, r17, r18, r19, r20⟩, ⟨r21, r22, r23, r24, r25, r26⟩, ⟨r27, r28, r29, r30, r31⟩, ⟨r32, r33⟩, ⟨r34, r35, r36, r37, r38, r39, r40, r41, r42, r43, r44, r45⟩, ⟨r46, r47, r48⟩, ⟨r49, r50, r51, r52, r53, r54, r55⟩, ⟨r56, r57, r58, r59, r60, r61, r62, r63, r64, r65⟩, ⟨r66, r67, r68, r69, r70, r71, r72, r73, r74, r75⟩, ⟨r76, r77, r78, r79, r80, r81, r82, r83⟩, ⟨r84, r85, r86, r87, r88, r89⟩, ⟨r90, r91, r92, r93, r94, r95, r96, r97, r98⟩, ⟨r99, r100, r101, r102, r103, r104, r105, r106⟩, ⟨r107, r108, r109, r110, r111, r112, r113⟩, ⟨r114, r115, r116, r117, r118, r119, r120, r121, r122, r123⟩⟩ := id hR
      exact ⟨r7.symm, r8.symm⟩
    have L : ∀ k i : Nat, i + k = (h 2 0).toNat → ∀ (g : HP), SCR h g → isW (g 105) (RBN h v3.toNat (st1 (hnF h) v1.toNat v2)) (h 2 0) → (∀ g y, SCR h g → y = failF (RBN h v3.toNat (st1 (hnF h) v1.toNat v2)) (h 10) (h 11) k i → Q (I y) g) → X (d + 10) 212 40 [some (P 69), some (I v1), some (I v2), some (I v3), some (I i)] [] g Q := by
      intro k
      induction k with
      | zero =>
        intro i hi g sg hW HQ
        exact b212_40 (br_i (fun _ => HQ g _ sg rfl) (fun q => absurd (by rw [n_scr hR sg]; omega) q))
      | succ k ih =>
        intro i hi g sg hW HQ
        have e := (hW i (by omega)).1
        refine b212_40 (br_i (fun q => absurd q (by rw [n_scr hR sg]; omega)) (fun _ => an_i (by omega) (by omega) (an_i (by omega) (by omega) (an_i (by omega) (by omega) ?_))))
        rw [sg.1 77 (by decide), sg.1 78 (by decide), e77.1, e77.2]
        simp only [Int.toNat_natCast]
        rw [e]
        refine z134 (br_i (fun q => b212_73 (br_i (fun x => absurd rfl x) (fun _ => HQ g _ sg ?_))) (fun q => br_i (fun q2 => b212_73 (br_i (fun x => absurd rfl x) (fun _ => HQ g _ sg ?_))) (fun q2 => b212_73 (br_i (fun _ => ?_) (fun x => absurd (by decide) x)))))
        · show _ = (if _ then _ else _)
          rw [if_neg (by omega)]
        · show _ = (if _ then _ else _)
          rw [if_neg (by omega)]
        · rw [w32_n (by omega)]
          refine ih (i + 1) (by omega) g sg hW (fun g y s ey => HQ g y s ?_)
          rw [ey]
          show _ = (if _ then _ else _)
          rw [if_pos ⟨by omega, by omega⟩]
    repeat' (first | (exfalso; omega) | (apply br_i <;> intro _) | apply b212_0 | apply z158 | apply b212_5 | apply z137 | apply b212_12 | apply an_i | decide | omega)
    refine m_lay hR b0 b1 (fun g hL => b212_26 (an_i a0 (by omega) ⟨hz, ?_⟩))
    have s2 : SCR h (up2 g 110 v1.toNat v2) := SCR_u (LAY_r hL) (by decide)
    refine m_sc (R_scr s2 hR) s2 (SCM_bn (LAY_s hR hL)) (fun k f hk => b212_37 ?_)
    rw [s2.1 2 (by decide)] at hk
    exact L (h 2 0).toNat 0 (by omega) k (SCR_105 s2 f) hk HN
  · have HN := H2 hv
    unfold vFail at hv
    clear H1 H2
    repeat' (first | exact HN | (exfalso; omega) | (apply br_i <;> intro _) | apply b212_0 | apply z158 | apply b212_5 | apply z137 | apply b212_12 | apply b212_15 | apply z135 | apply b212_20 | apply an_i | decide | omega)
theorem t_scr {g : HP} (hR : R h) (sg : SCR h g) : g 69 30 = h 26 2 := by
  rw [(R_cnt (R_scr sg hR)).1.2.2.2.2, sg.1 26 (by decide)]
theorem t_rf {a : Int} (hR : R h) : rfC h a 69 30 = h 26 2 := by
  rw [rfC_p (by decide)]; exact (R_cnt hR).1.2.2.2.2
theorem p_fails (hR : R h) (hz : v2 = 0 ∨ v2 = 1) : X (d + 10) 112 0 [some (P 0), some (I v1), some (I v2), some (I v3), none, none, none] [] h (fun r h1 => X (d + 10) 212 0 [some (P 69), some (I v1), some (I v2), some (I v3), none] [] h1 (fun r' h2 => EQA r r' h2)) :=
  c_fails hR hz (fun hv g y sg ey => m_fails (t_scr hR sg) hz (fun _ => ⟨R_scr sg hR, fun g2 y2 s2 ey2 => ⟨by rw [ey, ey2, RBN_s sg, hnF_s sg, sg.1 10 (by decide), sg.1 11 (by decide), sg.1 2 (by decide)], R_scr s2 (R_scr sg hR)⟩⟩) (fun hn => absurd hv hn)) (fun hn => m_fails (t_rf hR) hz (fun hv => absurd hv hn) (fun _ => EQA_rf hR))
/-! share -/
noncomputable def CR (h : HP) (hr p c : Nat) : Int := RV h (if c.testBit 0 = true then h 34 hr else 0) (h 30 5) 100 100 (if c.testBit 1 = true then h 25 else z0F) (if c.testBit 2 = true then hnF h else z0F) (h 21) (h 9) (h 23) (h 15) z0F p
theorem CR_s {g : HP} (a : SCR h g) {hr p : Nat} : CR g hr p = CR h hr p := by
  funext c
  unfold CR
  rw [RV_s a, hnF_s a, a.1 34 (by decide), a.1 30 (by decide), a.1 25 (by decide), a.1 21 (by decide), a.1 9 (by decide), a.1 23 (by decide), a.1 15 (by decide)]
theorem cb1 : ∀ c : Nat, c < 8 → ((bAnd (c : Int) 1 = 0) ↔ c.testBit 0 = false) ∧ ((bAnd (c : Int) 2 = 0) ↔ c.testBit 1 = false) ∧ ((bAnd (c : Int) 4 = 0) ↔ c.testBit 2 = false) := by decide +kernel
theorem cb2 : ∀ c : Nat, c < 8 → ((bAnd (c : Int) 1 = 1) ↔ c.testBit 0 = true) ∧ ((bAnd (bShr (c : Int) 1) 1 = 1) ↔ c.testBit 1 = true) ∧ ((bAnd (bShr (c : Int) 2) 1 = 1) ↔ c.testBit 2 = true) := by decide +kernel
theorem bR_0 (k : Nat) : bR 0 k = 0 := by rw [bR_c, bit_0]
theorem Rsun (hR : R h) (j : Nat) : 0 ≤ h 34 j ∧ h 34 j ≤ 999 := by
  obtain ⟨⟨r1, r2, r3, r4, r5, r6, r7, r8⟩, ⟨r9, r10, r11, r12, r13⟩, ⟨r14, r15, r16, r17, r18, r19, r20⟩, ⟨r21, r22, r23, r24, r25, r26⟩, ⟨r27, r28, r29, r30, r31⟩, ⟨r32, r33⟩, ⟨r34, r35, r36, r37, r38, r39, r40, r41, r42, r43, r44, r45⟩, ⟨r46, r47, r48⟩, ⟨r49, r50, r51, r52, r53, r54, r55⟩, ⟨r56, r57, r58, r59, r60, r61, r62, r63, r64, r65⟩, ⟨r66, r67, r68, r69, r70, r71, r72, r73, r74, r75⟩, ⟨r76, r77, r78, r79, r80, r81, r82, r83⟩, ⟨r84, r85, r86, r87, r88, r89⟩, ⟨r90, r91, r92, r93, r94, r95, r96, r97, r98⟩, ⟨r99, r100, r101, r102, r103, r104, r105, r106⟩, ⟨r107, r108, r109, r110, r111, r112, r113⟩, ⟨r114, r115, r116, r117, r118, r119, r120, r121, r122, r123⟩⟩ := id hR
  exact r88 j
set_option maxHeartbeats 4000000 in
/-- the class's scene with some causes only -/
theorem c_only {g : HP} {hr c : Nat} (hR : R h) (o : o41 h g) (hN : NOW g hr) (hc : c < 8) (H : ∀ k, o41 h k → SCE k (if c.testBit 0 = true then h 34 hr else 0) (h 30 5) 100 100 (if c.testBit 1 = true then h 25 else z0F) (if c.testBit 2 = true then hnF h else z0F) (h 21) (h 9) (h 23) (h 15) z0F → Q (I 0) k) : X d 59 0 [some (P 41), some (I (c : Int))] [] g Q := by
  have S := NOW_s hR o hN
  obtain ⟨k1, k2, k3⟩ := cb1 c hc
  have A : ∀ (k : HP) (sun : Int) (wk bn : Nat → Int), o41 h k → SCE k sun (h 30 5) 100 100 wk (hnF h) (h 21) (h 9) (h 23) (h 15) z0F → sun = (if c.testBit 0 = true then h 34 hr else 0) → wk = (if c.testBit 1 = true then h 25 else z0F) → X d 59 22 [some (P 41), some (I (c : Int))] [] k Q := by
    intro k sun wk bn o S e1 e2
    subst e1 e2
    refine b59_22 (br_i (fun q => H k o ?_) (fun q => H _ (fun r q1 q2 q3 => by rw [up_p q1]; exact o r q1 q2 q3) ?_))
    · have : c.testBit 2 = true := by
        cases hb : c.testBit 2
        · exact absurd (k3.mpr hb) q
        · rfl
      rw [if_pos this]; exact S
    · have : ¬ c.testBit 2 = true := by rw [k3.mp (Classical.not_not.mp q)]; decide
      rw [if_neg this]
      exact SCE_bn (by decide) (by decide) (fun k _ => ⟨fun _ => rfl, fun _ => bR_0 k⟩) S
  have B : ∀ (k : HP) (sun : Int), o41 h k → SCE k sun (h 30 5) 100 100 (h 25) (hnF h) (h 21) (h 9) (h 23) (h 15) z0F → sun = (if c.testBit 0 = true then h 34 hr else 0) → X d 59 11 [some (P 41), some (I (c : Int))] [] k Q := by
    intro k sun o S e1
    refine b59_11 (br_i (fun q => A k sun (h 25) (h 25) o S e1 ?_) (fun q => A _ sun z0F z0F (fun r q1 q2 q3 => by rw [up_p q1]; exact o r q1 q2 q3) ?_ e1 ?_))
    · have : c.testBit 1 = true := by
        cases hb : c.testBit 1
        · exact absurd (k2.mpr hb) q
        · rfl
      rw [if_pos this]
    · exact SCE_wk (by decide) (by decide) (fun k _ => ⟨fun _ => rfl, fun _ => bR_0 k⟩) S
    · have : ¬ c.testBit 1 = true := by rw [k2.mp (Classical.not_not.mp q)]; decide
      rw [if_neg this]
  refine b59_0 (br_i (fun q => B g _ o S ?_) (fun q => B _ 0 (fun r q1 q2 q3 => by rw [up_p q1]; exact o r q1 q2 q3) ?_ ?_))
  · have : c.testBit 0 = true := by
      cases hb : c.testBit 0
      · exact absurd (k1.mpr hb) q
      · rfl
    rw [if_pos this]
  · exact SCE_sun (by decide) (by decide) S
  · have : ¬ c.testBit 0 = true := by rw [k1.mp (Classical.not_not.mp q)]; decide
    rw [if_neg this]
theorem cb3 : ∀ c : Nat, c < 8 → ∀ k : Nat, k < 3 → bOr (c : Int) (bShl 1 (k : Int)) = ((c ||| 2 ^ k : Nat) : Int) ∧ c ||| 2 ^ k < 8 := by decide +kernel
theorem c_added {p hr : Int} {cs c : Nat} (hR : R h) (a0 : 0 ≤ p) (a1 : p < h 2 0) (b0 : 0 ≤ hr) (b1 : hr < 12) (hc : c < 8) (hk : cs < 3) (H : ∀ g y, SCR h g → y = CR h hr.toNat p.toNat (c ||| 2 ^ cs) - CR h hr.toNat p.toNat c → -600 ≤ y → y ≤ 600 → Q (I y) g) : X (d + 8) 132 0 [some (P 0), some (I p), some (I hr), some (I (cs : Int)), some (I (c : Int)), none] [] h Q := by
  refine b132_0 (c_asNow hR b0 b1 (fun g o hN => b132_8 (c_only hR o hN hc (fun g o S => b132_17 (c_scp (R_scr (o_scr o) hR) (o_scr o) S a0 (by rw [o 2 (by decide) (by decide) (by decide)]; exact a1) (fun k y f e y0 y6 => b132_25 ?_))))))
  have sk : SCR h k := SCR_FS (o_scr o) f
  have hk3 := cb3 c hc cs hk
  refine c_asNow (R_scr sk hR) b0 b1 (fun g2 o2 hN2 => b132_35 ?_)
  rw [hk3.1]
  refine c_only (R_scr sk hR) o2 hN2 hk3.2 (fun g3 o3 S3 => b132_48 (c_scp (R_scr (SCR_t sk (o_scr o3)) hR) (o_scr o3) S3 a0 (by rw [o3 2 (by decide) (by decide) (by decide), sk.1 2 (by decide)]; exact a1) (fun k2 y2 f2 e2 z0 z6 => b132_56 ?_)))
  rw [w32_of (by omega) (by omega)]
  refine H k2 _ (SCR_FS (SCR_t sk (o_scr o3)) f2) ?_ (by omega) (by omega)
  have e3 : y2 = CR k hr.toNat p.toNat (c ||| 2 ^ cs) := e2
  rw [CR_s sk] at e3
  rw [e3, e]; rfl
set_option maxHeartbeats 4000000 in
theorem m_restBy {p hr : Int} {c : Nat} (hR : R h) (a0 : 0 ≤ p) (a1 : p < h 2 0) (b0 : 0 ≤ hr) (b1 : hr < 12) (hc : c < 8) (H : ∀ g y, SCR h g → y = CR h hr.toNat p.toNat c → 0 ≤ y → y ≤ 600 → Q (I y) g) : X (d + 5) 218 0 [some (P 69), some (I p), some (I hr), some (I (c : Int)), none] [] h Q := by
  obtain ⟨⟨cn1, cn2, cn3, cn4, cn5⟩, n8, -, -, b8, t4⟩ := R_cnt hR
  obtain ⟨k1, k2, k3⟩ := cb2 c hc
  have L2 : ∀ k i : Nat, i + k = (h 26 2).toNat → ∀ (g : HP) (sun : Int) (wk bn : Nat → Int), SCR h g → SCM g sun (h 30 5) 100 100 wk bn (h 21) (h 9) (h 23) (h 15) → (sun = if c.testBit 0 = true then h 34 hr.toNat else 0) → (∀ k : Nat, (k : Int) < h 22 2 → (wk k = 0 ↔ (if c.testBit 1 = true then h 25 else z0F) k = 0)) → (∀ k, k < i → (bn k = 0 ↔ (if c.testBit 2 = true then hnF h else z0F) k = 0)) → (∀ k, i ≤ k → bn k = hnF h k) → X (d + 5) 218 76 [some (P 69), some (I p), some (I hr), some (I (c : Int)), some (I i)] [] g Q := by
    intro k
    induction k with
    | zero =>
      intro i hi g sun wk bn sg S e1 e2 e3 e4
      subst e1
      refine b218_76 (br_i (fun _ => ?_) (fun q => absurd (by rw [t_scr hR sg]; omega) q))
      refine m_scp (R_scr sg hR) sg S a0 (by rw [sg.1 2 (by decide)]; exact a1) (fun k y f e y0 y6 => b218_127 (H k y (SCR_105 sg f) ?_ y0 y6))
      rw [e]
      unfold CR
      exact congrFun (RV_c (SCT_of (SCR_r h)) (fun k hk => ⟨e2 k hk, rfl⟩) (fun k hk => e3 k (by omega)) (fun _ _ => Iff.rfl) (fun _ _ => ⟨rfl, rfl⟩) (fun _ _ => rfl)) _
    | succ k ih =>
      intro i hi g sun wk bn sg S e1 e2 e3 e4
      have e110 : (g 110 i = 0 ↔ bn i = 0) := S.2.2.1 i (by rw [sg.1 26 (by decide)]; omega)
      have F : ∀ v, (v = 0 ∨ v = 1) → (v = 0 ↔ (if c.testBit 2 = true then hnF h else z0F) i = 0) → X (d + 5) 218 115 [some (P 69), some (I p), some (I hr), some (I (c : Int)), some (I i)] [I v, I i, P 110] g Q := by
        intro v hv1 hv2
        refine b218_115 (an_i (by omega) (by omega) ⟨hv1, ?_⟩)
        rw [w32_n (by omega)]
        simp only [Int.toNat_natCast]
        refine ih (i + 1) (by omega) _ sun wk (st1 bn i v) (SCR_u sg (by decide)) (SCM_bn S) e1 e2 (fun j hj => ?_) (fun j hj => ?_)
        · by_cases ej : j = i
          · subst ej; rw [st1_s]; exact hv2
          · rw [st1_n ej]; exact e3 j (by omega)
        · rw [st1_n (by omega)]; exact e4 j (by omega)
      have ebi := e4 i (Nat.le_refl _)
      refine b218_76 (br_i (fun q => absurd q (by rw [t_scr hR sg]; omega)) (fun _ => an_i (by omega) (by omega) ?_))
      simp only [Int.toNat_natCast]
      refine br_i (fun q => b218_114 (F 0 (Or.inl rfl) ⟨fun _ => ?_, fun _ => rfl⟩)) (fun q => br_i (fun q2 => b218_114 (F 0 (Or.inl rfl) ⟨fun _ => ?_, fun _ => rfl⟩)) (fun q2 => F 1 (Or.inr rfl) ⟨fun x => absurd x (by decide), fun x => ?_⟩))
      · have := e110.mp q
        rw [ebi] at this
        split
        · exact this
        · rfl
      · rw [if_neg (fun x => q2 (k3.mpr x))]; rfl
      · rw [if_pos (k3.mp (Classical.not_not.mp q2)), ← ebi] at x
        exact absurd (e110.mpr x) q
  have L1 : ∀ k i : Nat, i + k = (h 22 2).toNat → ∀ (g : HP) (sun : Int) (wk : Nat → Int), SCR h g → SCM g sun (h 30 5) 100 100 wk (hnF h) (h 21) (h 9) (h 23) (h 15) → (sun = if c.testBit 0 = true then h 34 hr.toNat else 0) → (∀ k, k < i → (wk k = 0 ↔ (if c.testBit 1 = true then h 25 else z0F) k = 0)) → (∀ k, i ≤ k → wk k = h 25 k) → X (d + 5) 218 27 [some (P 69), some (I p), some (I hr), some (I (c : Int)), some (I i)] [] g Q := by
    intro k
    induction k with
    | zero =>
      intro i hi g sun wk sg S e1 e3 e4
      have e26 : g 69 26 = h 22 2 := by rw [(R_cnt (R_scr sg hR)).1.2.2.2.1, sg.1 22 (by decide)]
      exact b218_27 (br_i (fun _ => L2 (h 26 2).toNat 0 (by omega) g sun wk (hnF h) sg S e1 (fun k hk => e3 k (by omega)) (fun k hk => absurd hk (by omega)) (fun _ _ => rfl)) (fun q => absurd (by rw [e26]; omega) q))
    | succ k ih =>
      intro i hi g sun wk sg S e1 e3 e4
      have e26 : g 69 26 = h 22 2 := by rw [(R_cnt (R_scr sg hR)).1.2.2.2.1, sg.1 22 (by decide)]
      have e110 : (g 108 i = 0 ↔ wk i = 0) := (S.2.1 i (by rw [sg.1 22 (by decide)]; omega)).1
      have F : ∀ v, (v = 0 ∨ v = 1) → (v = 0 ↔ (if c.testBit 1 = true then h 25 else z0F) i = 0) → X (d + 5) 218 66 [some (P 69), some (I p), some (I hr), some (I (c : Int)), some (I i)] [I v, I i, P 108] g Q := by
        intro v hv1 hv2
        refine b218_66 (an_i (by omega) (by omega) ⟨hv1, ?_⟩)
        rw [w32_n (by omega)]
        simp only [Int.toNat_natCast]
        refine ih (i + 1) (by omega) _ sun (st1 wk i v) (SCR_u sg (by decide)) (SCM_wk S) e1 (fun j hj => ?_) (fun j hj => ?_)
        · by_cases ej : j = i
          · subst ej; rw [st1_s]; exact hv2
          · rw [st1_n ej]; exact e3 j (by omega)
        · rw [st1_n (by omega)]; exact e4 j (by omega)
      have ebi := e4 i (Nat.le_refl _)
      refine b218_27 (br_i (fun q => absurd q (by rw [e26]; omega)) (fun _ => an_i (by omega) (by omega) ?_))
      simp only [Int.toNat_natCast]
      refine br_i (fun q => b218_65 (F 0 (Or.inl rfl) ⟨fun _ => ?_, fun _ => rfl⟩)) (fun q => br_i (fun q2 => b218_65 (F 0 (Or.inl rfl) ⟨fun _ => ?_, fun _ => rfl⟩)) (fun q2 => F 1 (Or.inr rfl) ⟨fun x => absurd x (by decide), fun x => ?_⟩))
      · have := e110.mp q
        rw [ebi] at this
        split
        · exact this
        · rfl
      · rw [if_neg (fun x => q2 (k2.mpr x))]; rfl
      · rw [if_pos (k2.mp (Classical.not_not.mp q2)), ← ebi] at x
        exact absurd (e110.mpr x) q
  refine b218_0 (m_lay hR b0 b1 (fun g hL => b218_5 ?_))
  have S := LAY_s hR hL
  have y34 := Rsun hR hr.toNat
  refine br_i (fun q => b218_21 (L1 (h 22 2).toNat 0 (by omega) _ 0 (h 25) (SCR_m (LAY_r hL) rfl) (SCM_sun (by decide) (by decide) S) ?_ (fun k hk => absurd hk (by omega)) (fun _ _ => rfl))) (fun q => b218_21 (L1 (h 22 2).toNat 0 (by omega) _ (g 69 59) (h 25) (SCR_m (LAY_r hL) rfl) (SCM_sun (by rw [S.1.1]; omega) (by rw [S.1.1]; omega) S) ?_ (fun k hk => absurd hk (by omega)) (fun _ _ => rfl)))
  · rw [if_neg (fun x => q (k1.mpr x))]
  · rw [if_pos (k1.mp (Classical.not_not.mp q))]; exact S.1.1
end P45
