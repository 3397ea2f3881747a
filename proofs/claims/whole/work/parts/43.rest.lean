/-! pairs: rest, worst, age -/
noncomputable def REST (h : HP) (hr p : Nat) : Int := RV h (h 34 hr) (h 30 5) 100 100 (h 25) (hnF h) (h 21) (h 9) (h 23) (h 15) z0F p
theorem hnF_s {h g : HP} (a : SCR h g) : hnF g = hnF h := by unfold hnF; rw [a.1 29 (by decide)]
theorem REST_s {h g : HP} (a : SCR h g) {hr p : Nat} : REST g hr p = REST h hr p := by
  unfold REST
  rw [RV_s a, hnF_s a, a.1 34 (by decide), a.1 30 (by decide), a.1 25 (by decide), a.1 21 (by decide), a.1 9 (by decide), a.1 23 (by decide), a.1 15 (by decide)]
section P43
variable {d : Nat} {h : HP} {Q : PV → HP → Prop} {v1 v2 v3 v4 n : Int}
theorem o_scr {h g : HP} (o : o41 h g) : SCR h g := SCR_41 (SCR_r h) o
def vRest (n v1 v2 : Int) : Prop := 0 ≤ v1 ∧ v1 < n ∧ 0 ≤ v2 ∧ v2 < 12
set_option maxHeartbeats 4000000 in
theorem c_rest (hR : R h) (H1 : vRest (h 2 0) v1 v2 → ∀ g y, SCR h g → y = REST h v2.toNat v1.toNat → Q (I y) g) (H2 : ¬ vRest (h 2 0) v1 v2 → Q (I (-1)) (rfC h (-1))) : X (d + 10) 100 0 [some (P 0), some (I v1), some (I v2)] [] h Q := by
  by_cases hv : vRest (h 2 0) v1 v2
  · have HN := H1 hv
    obtain ⟨a0, a1, b0, b1⟩ := hv
    clear H1 H2
    repeat' (first | (exfalso; omega) | (apply br_i <;> intro _) | apply b100_0 | apply z124 | apply b100_5 | apply z123 | apply b100_14 | apply an_i | decide | omega)
    exact c_asNow hR b0 b1 (fun g o hN => b100_31 (c_scp (R_scr (o_scr o) hR) (o_scr o) (NOW_s hR o hN) a0 (by rw [o 2 (by decide) (by decide) (by decide)]; exact a1) (fun k y f e _ _ => b100_39 (HN k y (SCR_FS (o_scr o) f) e))))
  · have HN := H2 hv
    unfold vRest at hv
    clear H1 H2
    repeat' (first | exact HN | (exfalso; omega) | (apply br_i <;> intro _) | apply b100_0 | apply z124 | apply b100_5 | apply z123 | apply b100_14 | apply b100_17 | apply z121 | apply b100_22 | apply an_i | decide | omega)
set_option maxHeartbeats 4000000 in
theorem m_rst (e : h 69 9 = n) (H1 : vRest n v1 v2 → R h ∧ ∀ g y, SCR h g → y = REST h v2.toNat v1.toNat → Q (I y) g) (H2 : ¬ vRest n v1 v2 → Q (I (-1)) (rfM h (-1))) : X (d + 10) 188 0 [some (P 69), some (I v1), some (I v2)] [] h Q := by
  by_cases hv : vRest n v1 v2
  · obtain ⟨hR, HN⟩ := H1 hv
    obtain ⟨a0, a1, b0, b1⟩ := hv
    have e2 := (R_cnt hR).1.1
    clear H1 H2
    repeat' (first | (exfalso; omega) | (apply br_i <;> intro _) | apply b188_0 | apply z136 | apply b188_5 | apply z137 | apply b188_12 | apply an_i | decide | omega)
    exact m_lay hR b0 b1 (fun g hL => b188_26 (m_scp (R_scr (LAY_r hL) hR) (LAY_r hL) (LAY_s hR hL) a0 (by rw [hL.1 2 (by decide) (by decide)]; omega) (fun k y f e _ _ => b188_31 (HN k y (SCR_105 (LAY_r hL) f) e))))
  · have HN := H2 hv
    unfold vRest at hv
    clear H1 H2
    repeat' (first | exact HN | (exfalso; omega) | (apply br_i <;> intro _) | apply b188_0 | apply z136 | apply b188_5 | apply z137 | apply b188_12 | apply b188_15 | apply z135 | apply b188_20 | apply an_i | decide | omega)
theorem n_scr {h g : HP} (hR : R h) (sg : SCR h g) : g 69 9 = h 2 0 := by
  rw [(R_cnt (R_scr sg hR)).1.1, sg.1 2 (by decide)]
theorem n_rf {h : HP} {a : Int} (hR : R h) : rfC h a 69 9 = h 2 0 := by
  rw [rfC_p (by decide)]; exact (R_cnt hR).1.1
theorem p_rest (hR : R h) : X (d + 10) 100 0 [some (P 0), some (I v1), some (I v2)] [] h (fun r h1 => X (d + 10) 188 0 [some (P 69), some (I v1), some (I v2)] [] h1 (fun r' h2 => EQA r r' h2)) :=
  c_rest hR (fun hv g y sg ey => m_rst (n_scr hR sg) (fun _ => ⟨R_scr sg hR, fun g2 y2 s2 ey2 => ⟨by rw [ey, ey2, REST_s sg], R_scr s2 (R_scr sg hR)⟩⟩) (fun hn => absurd hv hn)) (fun hn => m_rst (n_rf hR) (fun hv => absurd hv hn) (fun _ => EQA_rf hR))
/-- to the ends of the spans -/
theorem str_w {s sp u : Int} (hs : s = 1 ∨ s = -1) (p0 : 0 ≤ sp) (p1 : sp ≤ 50) (u0 : 0 ≤ u) (u1 : u ≤ 999) : w32 (100 + w32 (s * sp)) = 100 + s * sp ∧ w32 (100 - w32 (s * sp)) = 100 - s * sp ∧ (50 ≤ 100 + s * sp ∧ 100 + s * sp ≤ 150) ∧ (50 ≤ 100 - s * sp ∧ 100 - s * sp ≤ 150) ∧ w32 (Int.tdiv (w32 (u * w32 (100 + w32 (s * sp)))) 100) = u * (100 + s * sp) / 100 ∧ 0 ≤ u * (100 + s * sp) / 100 ∧ u * (100 + s * sp) / 100 ≤ 1500 := by
  have b : -50 ≤ s * sp ∧ s * sp ≤ 50 := by
    rcases hs with e | e <;> subst e <;> omega
  generalize s * sp = x at *
  have m := mul_rg u0 u1 (b := 100 + x) (B := 150) (by omega) (by omega)
  rw [w32_of (x := x) (by omega) (by omega), w32_of (x := 100 + x) (by omega) (by omega), w32_of (x := 100 - x) (by omega) (by omega), w32_of (x := u * (100 + x)) (by omega) (by omega), tdv m.1]
  generalize u * (100 + x) = y at *
  rw [w32_of (by omega) (by omega)]
  refine ⟨rfl, rfl, ⟨by omega, by omega⟩, ⟨by omega, by omega⟩, rfl, by omega, by omega⟩
noncomputable def WORST (h : HP) (s yr : Int) (hr p : Nat) : Int := RV h (h 34 hr * (100 + s * h 35 0) / 100) yr (100 + s * h 35 1) (100 - s * h 35 2) (h 25) (hnF h) (h 21) (h 9) (h 23) (h 15) z0F p
theorem WORST_s {h g : HP} (a : SCR h g) {s yr : Int} {hr p : Nat} : WORST g s yr hr p = WORST h s yr hr p := by
  unfold WORST
  rw [RV_s a, hnF_s a, a.1 34 (by decide), a.1 35 (by decide), a.1 25 (by decide), a.1 21 (by decide), a.1 9 (by decide), a.1 23 (by decide), a.1 15 (by decide)]
def sgn (v : Int) : Int := if v = 0 then -1 else 1
theorem sgn_c (v : Int) : sgn v = 1 ∨ sgn v = -1 := by unfold sgn; split <;> simp
/-- the class's scene stretched -/
theorem c_str {g : HP} {hr : Nat} (hR : R h) (o : o41 h g) (hN : NOW g hr) (H : ∀ k, o41 h k → SCE k (h 34 hr * (100 + sgn v3 * h 35 0) / 100) (h 30 5) (100 + sgn v3 * h 35 1) (100 - sgn v3 * h 35 2) (h 25) (hnF h) (h 21) (h 9) (h 23) (h 15) z0F → Q (I 0) k) : X d 60 0 [some (P 41), some (I v3), none] [] g Q := by
  obtain ⟨⟨r1, r2, r3, r4, r5, r6, r7, r8⟩, ⟨r9, r10, r11, r12, r13⟩, ⟨r14, r15, r16, r17, r18, r19, r20⟩, ⟨r21, r22, r23, r24, r25, r26⟩, ⟨r27, r28, r29, r30, r31⟩, ⟨r32, r33⟩, ⟨r34, r35, r36, r37, r38, r39, r40, r41, r42, r43, r44, r45⟩, ⟨r46, r47, r48⟩, ⟨r49, r50, r51, r52, r53, r54, r55⟩, ⟨r56, r57, r58, r59, r60, r61, r62, r63, r64, r65⟩, ⟨r66, r67, r68, r69, r70, r71, r72, r73, r74, r75⟩, ⟨r76, r77, r78, r79, r80, r81, r82, r83⟩, ⟨r84, r85, r86, r87, r88, r89⟩, ⟨r90, r91, r92, r93, r94, r95, r96, r97, r98⟩, ⟨r99, r100, r101, r102, r103, r104, r105, r106⟩, ⟨r107, r108, r109, r110, r111, r112, r113⟩, ⟨r114, r115, r116, r117, r118, r119, r120, r121, r122, r123⟩⟩ := id hR
  have y0 := r89 0
  have y1 := r89 1
  have y2 := r89 2
  have ys := r88 hr
  have S := NOW_s hR o hN
  have e35 : g 35 = h 35 := o 35 (by decide) (by decide) (by decide)
  have e2 : g 41 2 = h 34 hr := S.1.1
  have hs := sgn_c v3
  have w0 := str_w hs y0.1 y0.2 ys.1 ys.2
  have w1 := str_w hs y1.1 y1.2 ys.1 ys.2
  have w2 := str_w hs y2.1 y2.2 ys.1 ys.2
  have F : Q (I 0) (up2 (up2 (up2 g 41 2 (w32 (Int.tdiv (w32 ((g 41 2) * (w32 (100 + (w32 (sgn v3 * (g 35 0))))))) 100))) 41 4 (w32 (100 + (w32 (sgn v3 * (g 35 1)))))) 41 5 (w32 (100 - (w32 (sgn v3 * (g 35 2)))))) := by
    rw [e35, e2, w0.2.2.2.2.1, w1.1, w2.2.1]
    refine H _ (fun q q1 q2 q3 => by rw [up_p q1, up_p q1, up_p q1]; exact o q q1 q2 q3) ?_
    exact SCE_sb (by omega) (by omega) (SCE_wb (by omega) (by omega) (SCE_sun w0.2.2.2.2.2.1 w0.2.2.2.2.2.2 S))
  refine z60 (br_i (fun q => ?_) (fun q => ?_))
  · have e : sgn v3 = -1 := by unfold sgn; rw [if_pos q]
    rw [e] at F; exact F
  · have e : sgn v3 = 1 := by unfold sgn; rw [if_neg q]
    rw [e] at F; exact F
set_option maxHeartbeats 4000000 in
theorem c_worst (hR : R h) (H1 : vRest (h 2 0) v1 v2 → ∀ g y, SCR h g → y = WORST h (sgn v3) (h 30 5) v2.toNat v1.toNat → Q (I y) g) (H2 : ¬ vRest (h 2 0) v1 v2 → Q (I (-1)) (rfC h (-1))) : X (d + 10) 103 0 [some (P 0), some (I v1), some (I v2), some (I v3)] [] h Q := by
  by_cases hv : vRest (h 2 0) v1 v2
  · have HN := H1 hv
    obtain ⟨a0, a1, b0, b1⟩ := hv
    clear H1 H2
    repeat' (first | (exfalso; omega) | (apply br_i <;> intro _) | apply b103_0 | apply z124 | apply b103_5 | apply z123 | apply b103_14 | apply an_i | decide | omega)
    exact c_asNow hR b0 b1 (fun g o hN => b103_31 (c_str hR o hN (fun g o hS => b103_39 (c_scp (R_scr (o_scr o) hR) (o_scr o) hS a0 (by rw [o 2 (by decide) (by decide) (by decide)]; exact a1) (fun k y f e _ _ => b103_47 (HN k y (SCR_FS (o_scr o) f) e))))))
  · have HN := H2 hv
    unfold vRest at hv
    clear H1 H2
    repeat' (first | exact HN | (exfalso; omega) | (apply br_i <;> intro _) | apply b103_0 | apply z124 | apply b103_5 | apply z123 | apply b103_14 | apply b103_17 | apply z121 | apply b103_22 | apply an_i | decide | omega)
theorem m_worstOf {p hr yr hot : Int} (hR : R h) (a0 : 0 ≤ p) (a1 : p < h 2 0) (b0 : 0 ≤ hr) (b1 : hr < 12) (yr0 : 0 ≤ yr) (yr1 : yr ≤ 9) (H : ∀ g y, SCR h g → y = WORST h (sgn hot) yr hr.toNat p.toNat → 0 ≤ y → y ≤ 600 → Q (I y) g) : X (d + 5) 193 0 [some (P 69), some (I p), some (I hr), some (I yr), some (I hot), none] [] h Q := by
  obtain ⟨⟨r1, r2, r3, r4, r5, r6, r7, r8⟩, ⟨r9, r10, r11, r12, r13⟩, ⟨r14, r15, r16, r17, r18, r19, r20⟩, ⟨r21, r22, r23, r24, r25, r26⟩, ⟨r27, r28, r29, r30, r31⟩, ⟨r32, r33⟩, ⟨r34, r35, r36, r37, r38, r39, r40, r41, r42, r43, r44, r45⟩, ⟨r46, r47, r48⟩, ⟨r49, r50, r51, r52, r53, r54, r55⟩, ⟨r56, r57, r58, r59, r60, r61, r62, r63, r64, r65⟩, ⟨r66, r67, r68, r69, r70, r71, r72, r73, r74, r75⟩, ⟨r76, r77, r78, r79, r80, r81, r82, r83⟩, ⟨r84, r85, r86, r87, r88, r89⟩, ⟨r90, r91, r92, r93, r94, r95, r96, r97, r98⟩, ⟨r99, r100, r101, r102, r103, r104, r105, r106⟩, ⟨r107, r108, r109, r110, r111, r112, r113⟩, ⟨r114, r115, r116, r117, r118, r119, r120, r121, r122, r123⟩⟩ := id hR
  have y0 := r89 0
  have y1 := r89 1
  have y2 := r89 2
  have ys := r88 hr.toNat
  have hs := sgn_c hot
  have w0 := str_w hs y0.1 y0.2 ys.1 ys.2
  have w1 := str_w hs y1.1 y1.2 ys.1 ys.2
  have w2 := str_w hs y2.1 y2.2 ys.1 ys.2
  refine b193_0 (m_lay hR b0 b1 (fun g hL => b193_5 ?_))
  have S := LAY_s hR hL
  have e35 : g 96 = h 35 := by rw [hL.1 96 (by decide) (by decide)]; exact r13.symm
  have e2 : g 69 59 = h 34 hr.toNat := S.1.1
  have F : X (d + 5) 193 20 [some (P 69), some (I p), some (I hr), some (I yr), some (I hot), none] [I (sgn hot)] (up2 g 69 60 yr) Q := by
    refine b193_20 ?_
    rw [up_p (p := 69) (q := 96) (by decide), e35, up_i (j := 59) (by decide), e2, w0.2.2.2.2.1, w1.1, w2.2.1]
    have S2 := SCM_sb (v := 100 - sgn hot * h 35 2) (by omega) (by omega) (SCM_wb (v := 100 + sgn hot * h 35 1) (by omega) (by omega) (SCM_sun w0.2.2.2.2.2.1 w0.2.2.2.2.2.2 (SCM_yr yr0 yr1 S)))
    have a : SCR h (up2 (up2 (up2 (up2 g 69 60 yr) 69 59 (h 34 hr.toNat * (100 + sgn hot * h 35 0) / 100)) 69 61 (100 + sgn hot * h 35 1)) 69 62 (100 - sgn hot * h 35 2)) := SCR_m (SCR_m (SCR_m (SCR_m (LAY_r hL) rfl) rfl) rfl) rfl
    exact m_scp (R_scr a hR) a S2 a0 (by rw [a.1 2 (by decide)]; exact a1) (fun k y f e z0 z6 => b193_83 (H k y (SCR_105 a f) e z0 z6))
  refine br_i (fun q => ?_) (fun q => ?_)
  · have e : sgn hot = -1 := by unfold sgn; rw [if_pos q]
    rw [e] at F; exact F
  · have e : sgn hot = 1 := by unfold sgn; rw [if_neg q]
    rw [e] at F; exact F
set_option maxHeartbeats 4000000 in
theorem m_worst (e : h 69 9 = n) (H1 : vRest n v1 v2 → R h ∧ ∀ g y, SCR h g → y = WORST h (sgn v3) (h 30 5) v2.toNat v1.toNat → Q (I y) g) (H2 : ¬ vRest n v1 v2 → Q (I (-1)) (rfM h (-1))) : X (d + 10) 194 0 [some (P 69), some (I v1), some (I v2), some (I v3)] [] h Q := by
  by_cases hv : vRest n v1 v2
  · obtain ⟨hR, HN⟩ := H1 hv
    obtain ⟨a0, a1, b0, b1⟩ := hv
    have e2 := (R_cnt hR).1.1
    clear H1 H2
    have e31 : h 69 31 = h 30 5 ∧ 0 ≤ h 30 5 ∧ h 30 5 ≤ 9 := by
      obtain ⟨⟨r1, r2, r3, r4, r5, r6, r7, r8⟩, ⟨r9, r10, r11, r12, r13⟩, ⟨r14, r15, r16, r17, r18, r19, r20⟩, ⟨r21, r22, r23, r24, r25, r26⟩, ⟨r27, r28, r29, r30, r31⟩, ⟨r32, r33⟩, ⟨r34, r35, r36, r37, r38, r39, r40, r41, r42, r43, r44, r45⟩, ⟨r46, r47, r48⟩, ⟨r49, r50, r51, r52, r53, r54, r55⟩, ⟨r56, r57, r58, r59, r60, r61, r62, r63, r64, r65⟩, ⟨r66, r67, r68, r69, r70, r71, r72, r73, r74, r75⟩, ⟨r76, r77, r78, r79, r80, r81, r82, r83⟩, ⟨r84, r85, r86, r87, r88, r89⟩, ⟨r90, r91, r92, r93, r94, r95, r96, r97, r98⟩, ⟨r99, r100, r101, r102, r103, r104, r105, r106⟩, ⟨r107, r108, r109, r110, r111, r112, r113⟩, ⟨r114, r115, r116, r117, r118, r119, r120, r121, r122, r123⟩⟩ := id hR
      exact ⟨r39.symm, r66, r67⟩
    repeat' (first | (exfalso; omega) | (apply br_i <;> intro _) | apply b194_0 | apply z136 | apply b194_5 | apply z137 | apply b194_12 | apply an_i | decide | omega)
    rw [e31.1]
    exact m_worstOf hR a0 (by omega) b0 b1 e31.2.1 e31.2.2 (fun k y s e _ _ => b194_26 (b194_34 (HN k y s e)))
  · have HN := H2 hv
    unfold vRest at hv
    clear H1 H2
    repeat' (first | exact HN | (exfalso; omega) | (apply br_i <;> intro _) | apply b194_0 | apply z136 | apply b194_5 | apply z137 | apply b194_12 | apply b194_29 | apply z135 | apply b194_34 | apply an_i | decide | omega)
theorem p_worst (hR : R h) : X (d + 10) 103 0 [some (P 0), some (I v1), some (I v2), some (I v3)] [] h (fun r h1 => X (d + 10) 194 0 [some (P 69), some (I v1), some (I v2), some (I v3)] [] h1 (fun r' h2 => EQA r r' h2)) :=
  c_worst hR (fun hv g y sg ey => m_worst (n_scr hR sg) (fun _ => ⟨R_scr sg hR, fun g2 y2 s2 ey2 => ⟨by rw [ey, ey2, WORST_s sg, sg.1 30 (by decide)], R_scr s2 (R_scr sg hR)⟩⟩) (fun hn => absurd hv hn)) (fun hn => m_worst (n_rf hR) (fun hv => absurd hv hn) (fun _ => EQA_rf hR))
/-- the first year in which it is warmer -/
def ageF (f : Nat → Int) (mark : Int) : Nat → Nat → Int
  | 0, _ => -9
  | k + 1, y => if f y ≤ mark then ageF f mark k (y + 1) else y
theorem ageF_c {f g : Nat → Int} {mark : Int} (H : ∀ y, f y = g y) : ageF f mark = ageF g mark := by
  have : f = g := funext H
  rw [this]
def vAge (n v1 v2 v3 : Int) : Prop := vRest n v1 v2 ∧ 0 ≤ v3 ∧ v3 ≤ 600
def nAge (n v1 v2 v3 : Int) : Int := if 0 ≤ v1 ∧ v1 < n ∧ 0 ≤ v2 ∧ v2 < 12 then (if v3 < 0 then -4 else -6) else -1
theorem ageF_y {f : Nat → Int} {mark : Int} {k i : Nat} (c : f i ≤ mark) : ageF f mark (k + 1) i = ageF f mark k (i + 1) := if_pos c
theorem ageF_n {f : Nat → Int} {mark : Int} {k i : Nat} (c : ¬ f i ≤ mark) : ageF f mark (k + 1) i = i := if_neg c
set_option maxHeartbeats 4000000 in
theorem c_age (hR : R h) (H1 : vAge (h 2 0) v1 v2 v3 → ∀ g y, SCR h g → y = ageF (fun y => WORST h (sgn (if v4 = 0 then 1 else 0)) y v2.toNat v1.toNat) v3 10 0 → Q (I y) g) (H2 : ¬ vAge (h 2 0) v1 v2 v3 → Q (I (nAge (h 2 0) v1 v2 v3)) (rfC h (nAge (h 2 0) v1 v2 v3))) : X (d + 10) 105 0 [some (P 0), some (I v1), some (I v2), some (I v3), some (I v4), none] [] h Q := by
  by_cases hv : vAge (h 2 0) v1 v2 v3
  · have HN := H1 hv
    obtain ⟨⟨a0, a1, b0, b1⟩, c0, c1⟩ := hv
    clear H1 H2
    have L : ∀ k i : Nat, i + k = 10 → ∀ (g : HP) (yr : Int), SCR h g → SCE g (h 34 v2.toNat * (100 + sgn (if v4 = 0 then 1 else 0) * h 35 0) / 100) yr (100 + sgn (if v4 = 0 then 1 else 0) * h 35 1) (100 - sgn (if v4 = 0 then 1 else 0) * h 35 2) (h 25) (hnF h) (h 21) (h 9) (h 23) (h 15) z0F → (∀ g y, SCR h g → y = ageF (fun y => WORST h (sgn (if v4 = 0 then 1 else 0)) y v2.toNat v1.toNat) v3 k i → Q (I y) g) → X (d + 10) 105 76 [some (P 0), some (I v1), some (I v2), some (I v3), some (I v4), some (I i)] [] g Q := by
      intro k
      induction k with
      | zero =>
        intro i hi g yr sg hS HQ
        exact b105_76 (br_i (fun _ => HQ g _ sg rfl) (fun q => absurd (by omega) q))
      | succ k ih =>
        intro i hi g yr sg hS HQ
        refine b105_76 (br_i (fun q => absurd q (by omega)) (fun _ => ?_))
        have sg2 : SCR h (up2 g 41 3 (i : Int)) := SCR_u sg (by decide)
        have S2 := SCE_yr (v := (i : Int)) (by omega) (by omega) hS
        refine c_scp (R_scr sg2 hR) sg2 S2 a0 (by rw [sg2.1 2 (by decide)]; exact a1) (fun k2 y f e _ _ => b105_100 (br_i (fun q => ?_) (fun q => ?_)))
        · rw [w32_n (by omega)]
          refine ih (i + 1) (by omega) k2 _ (SCR_FS sg2 f) (SCE_FS f S2) (fun g y s ey => HQ g y s ?_)
          rw [ey, ageF_y (by rw [e] at q; exact q)]
        · refine HQ k2 _ (SCR_FS sg2 f) ?_
          rw [ageF_n (by rw [e] at q; exact q)]
    repeat' (first | (exfalso; omega) | (apply br_i <;> intro _) | apply b105_0 | apply z124 | apply b105_5 | apply z123 | apply b105_14 | apply an_i | decide | omega)
    refine c_asNow hR b0 b1 (fun g o hN => b105_56 ?_)
    have F : X (d + 10) 105 70 [some (P 0), some (I v1), some (I v2), some (I v3), some (I v4), none] [I (if v4 = 0 then 1 else 0), P 41] g Q :=
      b105_70 (c_str hR o hN (fun g o hS => b105_73 (L 10 0 rfl g _ (o_scr o) hS HN)))
    refine br_i (fun q => ?_) (fun q => ?_)
    · rw [if_neg q] at F; exact F
    · rw [if_pos (Classical.not_not.mp q)] at F; exact F
  · have HN := H2 hv
    clear H1 H2
    unfold vAge at hv
    unfold nAge at HN
    by_cases hr : vRest (h 2 0) v1 v2
    · rw [if_pos (show _ ∧ _ from hr)] at HN
      obtain ⟨a0, a1, b0, b1⟩ := id hr
      by_cases c : v3 < 0
      · rw [if_pos c] at HN
        repeat' (first | exact HN | (exfalso; omega) | (apply br_i <;> intro _) | apply b105_0 | apply z124 | apply b105_5 | apply z123 | apply b105_14 | apply z121 | apply b105_33 | apply an_i | decide | omega)
      · rw [if_neg c] at HN
        have c2 : ¬ v3 ≤ 600 := fun x => hv ⟨hr, by omega, x⟩
        repeat' (first | exact HN | (exfalso; omega) | (apply br_i <;> intro _) | apply b105_0 | apply z124 | apply b105_5 | apply z123 | apply b105_14 | apply z121 | apply b105_47 | apply an_i | decide | omega)
    · rw [if_neg (show ¬ (_ ∧ _) from hr)] at HN
      clear hv
      unfold vRest at hr
      repeat' (first | exact HN | (exfalso; omega) | (apply br_i <;> intro _) | apply b105_0 | apply z124 | apply b105_5 | apply z123 | apply b105_14 | apply b105_17 | apply z121 | apply b105_22 | apply an_i | decide | omega)
set_option maxHeartbeats 4000000 in
theorem m_age (e : h 69 9 = n) (H1 : vAge n v1 v2 v3 → R h ∧ ∀ g y, SCR h g → y = ageF (fun y => WORST h (sgn (if v4 = 0 then 1 else 0)) y v2.toNat v1.toNat) v3 10 0 → Q (I y) g) (H2 : ¬ vAge n v1 v2 v3 → Q (I (nAge n v1 v2 v3)) (rfM h (nAge n v1 v2 v3))) : X (d + 10) 200 0 [some (P 69), some (I v1), some (I v2), some (I v3), some (I v4), none] [] h Q := by
  by_cases hv : vAge n v1 v2 v3
  · obtain ⟨hR, HN⟩ := H1 hv
    obtain ⟨⟨a0, a1, b0, b1⟩, c0, c1⟩ := hv
    have e2 := (R_cnt hR).1.1
    clear H1 H2
    have L : ∀ k i : Nat, i + k = 10 → ∀ (g : HP), SCR h g → (∀ g y, SCR h g → y = ageF (fun y => WORST h (sgn (if v4 = 0 then 1 else 0)) y v2.toNat v1.toNat) v3 k i → Q (I y) g) → X (d + 10) 200 49 [some (P 69), some (I v1), some (I v2), some (I v3), some (I v4), some (I i)] [] g Q := by
      intro k
      induction k with
      | zero =>
        intro i hi g sg HQ
        exact b200_49 (br_i (fun _ => HQ g _ sg rfl) (fun q => absurd (by omega) q))
      | succ k ih =>
        intro i hi g sg HQ
        have F : X (d + 10) 200 71 [some (P 69), some (I v1), some (I v2), some (I v3), some (I v4), some (I i)] [I (if v4 = 0 then 1 else 0), I i, I v2, I v1, P 69] g Q := by
          refine b200_71 (m_worstOf (R_scr sg hR) a0 (by rw [sg.1 2 (by decide)]; omega) b0 b1 (by omega) (by omega) (fun k2 y s2 e3 _ _ => b200_74 (br_i (fun q => ?_) (fun q => ?_))))
          · rw [w32_n (by omega)]
            refine ih (i + 1) (by omega) k2 (SCR_t sg s2) (fun g y s ey => HQ g y s ?_)
            rw [ey, ageF_y (by rw [e3, WORST_s sg] at q; exact q)]
          · refine HQ k2 _ (SCR_t sg s2) ?_
            rw [ageF_n (by rw [e3, WORST_s sg] at q; exact q)]
        refine b200_49 (br_i (fun q => absurd q (by omega)) (fun _ => br_i (fun q => ?_) (fun q => ?_)))
        · rw [if_neg q] at F; exact F
        · rw [if_pos (Classical.not_not.mp q)] at F; exact F
    repeat' (first | (exfalso; omega) | (apply br_i <;> intro _) | apply b200_0 | apply z136 | apply b200_5 | apply z137 | apply b200_12 | apply an_i | decide | omega)
    exact L 10 0 rfl h (SCR_r h) HN
  · have HN := H2 hv
    clear H1 H2
    unfold vAge at hv
    unfold nAge at HN
    by_cases hr : vRest n v1 v2
    · rw [if_pos (show _ ∧ _ from hr)] at HN
      obtain ⟨a0, a1, b0, b1⟩ := id hr
      by_cases c : v3 < 0
      · rw [if_pos c] at HN
        repeat' (first | exact HN | (exfalso; omega) | (apply br_i <;> intro _) | apply b200_0 | apply z136 | apply b200_5 | apply z137 | apply b200_12 | apply z135 | apply b200_31 | apply an_i | decide | omega)
      · rw [if_neg c] at HN
        have c2 : ¬ v3 ≤ 600 := fun x => hv ⟨hr, by omega, x⟩
        repeat' (first | exact HN | (exfalso; omega) | (apply br_i <;> intro _) | apply b200_0 | apply z136 | apply b200_5 | apply z137 | apply b200_12 | apply z135 | apply b200_45 | apply an_i | decide | omega)
    · rw [if_neg (show ¬ (_ ∧ _) from hr)] at HN
      clear hv
      unfold vRest at hr
      repeat' (first | exact HN | (exfalso; omega) | (apply br_i <;> intro _) | apply b200_0 | apply z136 | apply b200_5 | apply z137 | apply b200_12 | apply b200_15 | apply z135 | apply b200_20 | apply an_i | decide | omega)
theorem p_age (hR : R h) : X (d + 10) 105 0 [some (P 0), some (I v1), some (I v2), some (I v3), some (I v4), none] [] h (fun r h1 => X (d + 10) 200 0 [some (P 69), some (I v1), some (I v2), some (I v3), some (I v4), none] [] h1 (fun r' h2 => EQA r r' h2)) :=
  c_age hR (fun hv g y sg ey => m_age (n_scr hR sg) (fun _ => ⟨R_scr sg hR, fun g2 y2 s2 ey2 => ⟨by rw [ey, ey2, ageF_c (fun y => WORST_s sg)], R_scr s2 (R_scr sg hR)⟩⟩) (fun hn => absurd hv hn)) (fun hn => m_age (n_rf hR) (fun hv => absurd hv hn) (fun _ => EQA_rf hR))
end P43
