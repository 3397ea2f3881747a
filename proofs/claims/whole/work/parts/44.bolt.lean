/-! pairs: bolt, matters, fails -/
section P44
variable {d : Nat} {h : HP} {Q : PV → HP → Prop} {v1 v2 v3 v4 n m : Int}
noncomputable def RLD (h : HP) (hr p j : Nat) (v : Int) : Int := RV h (h 34 hr) (h 30 5) 100 100 (h 25) (hnF h) (h 21) (h 9) (h 23) (st1 (h 15) j v) z0F p
theorem RLD_s {g : HP} (a : SCR h g) {hr p j : Nat} {v : Int} : RLD g hr p j v = RLD h hr p j v := by
  unfold RLD
  rw [RV_s a, hnF_s a, a.1 34 (by decide), a.1 30 (by decide), a.1 25 (by decide), a.1 21 (by decide), a.1 9 (by decide), a.1 23 (by decide), a.1 15 (by decide)]
def vBolt (n m v1 v2 v3 : Int) : Prop := 0 ≤ v1 ∧ v1 < m ∧ 0 ≤ v2 ∧ v2 < n ∧ 0 ≤ v3 ∧ v3 < 12
def vBolt2 (n m v1 v2 v3 v4 : Int) : Prop := vBolt n m v1 v2 v3 ∧ 0 ≤ v4 ∧ v4 < 2
def bLd (h : HP) (j : Nat) (what : Int) : Int := if what = 0 then (if h 15 j = 99 then 99 else h 15 j + 1) else 0
noncomputable def BOLT (h : HP) (j p hr : Nat) (what : Int) : Int := RLD h hr p j (bLd h j what) - REST h hr p
theorem BOLT_s {g : HP} (a : SCR h g) {hr p j : Nat} {v : Int} : BOLT g j p hr v = BOLT h j p hr v := by
  unfold BOLT bLd
  rw [RLD_s a, REST_s a, a.1 15 (by decide)]
theorem R15 (hR : R h) (j : Nat) : 0 ≤ h 15 j ∧ h 15 j ≤ 99 := by
  obtain ⟨⟨r1, r2, r3, r4, r5, r6, r7, r8⟩, ⟨r9, r10, r11, r12, r13⟩, ⟨r14, r15, r16, r17, r18, r19, r20⟩, ⟨r21, r22, r23, r24, r25, r26⟩, ⟨r27, r28, r29, r30, r31⟩, ⟨r32, r33⟩, ⟨r34, r35, r36, r37, r38, r39, r40, r41, r42, r43, r44, r45⟩, ⟨r46, r47, r48⟩, ⟨r49, r50, r51, r52, r53, r54, r55⟩, ⟨r56, r57, r58, r59, r60, r61, r62, r63, r64, r65⟩, ⟨r66, r67, r68, r69, r70, r71, r72, r73, r74, r75⟩, ⟨r76, r77, r78, r79, r80, r81, r82, r83⟩, ⟨r84, r85, r86, r87, r88, r89⟩, ⟨r90, r91, r92, r93, r94, r95, r96, r97, r98⟩, ⟨r99, r100, r101, r102, r103, r104, r105, r106⟩, ⟨r107, r108, r109, r110, r111, r112, r113⟩, ⟨r114, r115, r116, r117, r118, r119, r120, r121, r122, r123⟩⟩ := id hR
  exact r92 j
theorem bLd_r (hR : R h) (j : Nat) (w : Int) : 0 ≤ bLd h j w ∧ bLd h j w ≤ 99 := by
  have := R15 hR j
  unfold bLd
  split
  · split <;> omega
  · omega
set_option maxHeartbeats 4000000 in
theorem c_bolt (hR : R h) (H1 : vBolt2 (h 2 0) (h 12 1) v1 v2 v3 v4 → ∀ g y, SCR h g → y = BOLT h v1.toNat v2.toNat v3.toNat v4 → Q (I y) g) (H2 : vBolt (h 2 0) (h 12 1) v1 v2 v3 → ¬ (0 ≤ v4 ∧ v4 < 2) → Q (I (w32 (1000000000 - (-2)))) (rfC h (-2))) (H3 : ¬ vBolt (h 2 0) (h 12 1) v1 v2 v3 → Q (I (w32 (1000000000 - (-1)))) (rfC h (-1))) : X (d + 10) 106 0 [some (P 0), some (I v1), some (I v2), some (I v3), some (I v4), none] [] h Q := by
  by_cases hv : vBolt (h 2 0) (h 12 1) v1 v2 v3
  · by_cases hw : 0 ≤ v4 ∧ v4 < 2
    · have HN := H1 ⟨hv, hw⟩
      obtain ⟨a0, a1, b0, b1, c0, c1⟩ := hv
      obtain ⟨w0, w1⟩ := hw
      clear H1 H2 H3
      have cn := R_cnt hR
      repeat' (first | (exfalso; omega) | (apply br_i <;> intro _) | apply b106_0 | apply z124 | apply b106_14 | apply b106_22 | apply z123 | apply b106_31 | apply b106_46 | apply an_i | decide | omega)
      refine c_asNow hR c0 c1 (fun g o hN => b106_64 (c_scp (R_scr (o_scr o) hR) (o_scr o) (NOW_s hR o hN) b0 (by rw [o 2 (by decide) (by decide) (by decide)]; exact b1) (fun k y f e y0 y6 => b106_72 ?_)))
      have sk : SCR h k := SCR_FS (o_scr o) f
      have Sk := SCE_FS f (NOW_s hR o hN)
      have x15 := R15 hR v1.toNat
      have e43 : k 43 v1.toNat = h 15 v1.toNat := Sk.2.2.2.2.2.1 v1.toNat (by rw [sk.1 12 (by decide)]; omega)
      have br := bLd_r hR v1.toNat v4
      have F : ∀ v, v = bLd h v1.toNat v4 → X (d + 10) 106 107 [some (P 0), some (I v1), some (I v2), some (I v3), some (I v4), some (I y)] [I v, I v1, P 43] k Q := by
        intro v hv
        subst hv
        refine b106_107 (an_i (by omega) (by omega) ?_)
        have s2 : SCR h (up2 k 43 v1.toNat (bLd h v1.toNat v4)) := SCR_u sk (by decide)
        refine c_scp (R_scr s2 hR) s2 (SCE_ld br.1 br.2 Sk) b0 (by rw [s2.1 2 (by decide)]; exact b1) (fun k2 y2 f2 e2 z0 z6 => b106_116 (HN k2 _ (SCR_FS s2 f2) ?_))
        rw [w32_of (by omega) (by omega), e, e2]; rfl
      refine br_i (fun q => F 0 ?_) (fun q => an_i (by omega) (by omega) ?_)
      · unfold bLd; rw [if_neg q]
      · rw [e43, w32_of (by omega) (by omega)]
        refine z225 (br_i (fun q2 => b106_103 (F _ ?_)) (fun q2 => b106_103 (F _ ?_)))
        · unfold bLd; rw [if_pos (by omega), if_neg (by omega)]
        · unfold bLd; rw [if_pos (by omega)]; split <;> omega
    · have HN := H2 hv hw
      obtain ⟨a0, a1, b0, b1, c0, c1⟩ := hv
      clear H1 H2 H3
      repeat' (first | exact HN | (exfalso; omega) | (apply br_i <;> intro _) | apply b106_0 | apply z124 | apply b106_14 | apply b106_22 | apply z123 | apply b106_31 | apply b106_46 | apply z122 | apply b106_55 | apply an_i | decide | omega)
  · have HN := H3 hv
    unfold vBolt at hv
    clear H1 H2 H3
    repeat' (first | exact HN | (exfalso; omega) | (apply br_i <;> intro _) | apply b106_0 | apply z124 | apply b106_14 | apply b106_22 | apply z123 | apply b106_31 | apply b106_34 | apply z122 | apply b106_39 | apply an_i | decide | omega)
theorem m_change {j p hr v : Int} (hR : R h) (a0 : 0 ≤ j) (a1 : j < h 12 1) (b0 : 0 ≤ p) (b1 : p < h 2 0) (c0 : 0 ≤ hr) (c1 : hr < 12) (w0 : 0 ≤ v) (w1 : v ≤ 99) (H : ∀ g y, SCR h g → y = RLD h hr.toNat p.toNat j.toNat v - REST h hr.toNat p.toNat → -600 ≤ y → y ≤ 600 → Q (I y) g) : X (d + 5) 201 0 [some (P 69), some (I j), some (I p), some (I hr), some (I v), none] [] h Q := by
  have cn := R_cnt hR
  refine b201_0 (m_lay hR c0 c1 (fun g hL => b201_5 (m_scp (R_scr (LAY_r hL) hR) (LAY_r hL) (LAY_s hR hL) b0 (by rw [hL.1 2 (by decide) (by decide)]; exact b1) (fun k y f e y0 y6 => b201_10 (an_i a0 (by omega) ?_)))))
  have s2 : SCR h (up2 k 106 j.toNat v) := SCR_u (SCR_105 (LAY_r hL) f) (by decide)
  refine m_scp (R_scr s2 hR) s2 (SCM_ld w0 w1 (SCM_105 f (LAY_s hR hL))) b0 (by rw [s2.1 2 (by decide)]; exact b1) (fun k2 y2 f2 e2 z0 z6 => b201_25 ?_)
  rw [w32_of (by omega) (by omega)]
  refine H k2 _ (SCR_105 s2 f2) ?_ (by omega) (by omega)
  rw [e, e2]; rfl
set_option maxHeartbeats 4000000 in
theorem m_bolt (e : h 69 9 = n) (e17 : h 69 17 = m) (H1 : vBolt2 n m v1 v2 v3 v4 → R h ∧ ∀ g y, SCR h g → y = BOLT h v1.toNat v2.toNat v3.toNat v4 → Q (I y) g) (H2 : vBolt n m v1 v2 v3 → ¬ (0 ≤ v4 ∧ v4 < 2) → Q (I (w32 (1000000000 - (-2)))) (rfM h (-2))) (H3 : ¬ vBolt n m v1 v2 v3 → Q (I (w32 (1000000000 - (-1)))) (rfM h (-1))) : X (d + 10) 202 0 [some (P 69), some (I v1), some (I v2), some (I v3), some (I v4), none] [] h Q := by
  by_cases hv : vBolt n m v1 v2 v3
  · by_cases hw : 0 ≤ v4 ∧ v4 < 2
    · obtain ⟨hR, HN⟩ := H1 ⟨hv, hw⟩
      obtain ⟨a0, a1, b0, b1, c0, c1⟩ := hv
      obtain ⟨w0, w1⟩ := hw
      clear H1 H2 H3
      obtain ⟨⟨cn1, cn2, -⟩, cn3, cn4, -⟩ := R_cnt hR
      have x15 := R15 hR v1.toNat
      have e85 : h 85 = h 15 := by
        obtain ⟨⟨r1, r2, r3, r4, r5, r6, r7, r8⟩, ⟨r9, r10, r11, r12, r13⟩, ⟨r14, r15, r16, r17, r18, r19, r20⟩, ⟨r21, r22, r23, r24, r25, r26⟩, ⟨r27, r28, r29, r30, r31⟩, ⟨r32, r33⟩, ⟨r34, r35, r36, r37, r38, r39, r40, r41, r42, r43, r44, r45⟩, ⟨r46, r47, r48⟩, ⟨r49, r50, r51, r52, r53, r54, r55⟩, ⟨r56, r57, r58, r59, r60, r61, r62, r63, r64, r65⟩, ⟨r66, r67, r68, r69, r70, r71, r72, r73, r74, r75⟩, ⟨r76, r77, r78, r79, r80, r81, r82, r83⟩, ⟨r84, r85, r86, r87, r88, r89⟩, ⟨r90, r91, r92, r93, r94, r95, r96, r97, r98⟩, ⟨r99, r100, r101, r102, r103, r104, r105, r106⟩, ⟨r107, r108, r109, r110, r111, r112, r113⟩, ⟨r114, r115, r116, r117, r118, r119, r120, r121, r122, r123⟩⟩ := id hR
        exact r16.symm
      have br := bLd_r hR v1.toNat v4
      have F : ∀ v v5, v = bLd h v1.toNat v4 → X (d + 10) 202 99 [some (P 69), some (I v1), some (I v2), some (I v3), some (I v4), some (I v5)] [I v, I v3, I v2, I v1, P 69] h Q := by
        intro v v5 hv
        subst hv
        exact b202_99 (m_change hR a0 (by omega) b0 (by omega) c0 c1 br.1 br.2 (fun k y s ey _ _ => b202_102 (HN k y s ey)))
      repeat' (first | (exfalso; omega) | (apply br_i <;> intro _) | apply b202_0 | apply z136 | apply b202_17 | apply z137 | apply b202_24 | apply z134 | apply b202_44 | apply an_i | decide | omega)
      all_goals refine b202_82 (br_i (fun q => F _ _ ?_) (fun q => F _ _ ?_))
      all_goals unfold bLd
      all_goals rw [e85] at *
      · rw [if_neg q]
      · rw [if_pos (by omega), w32_of (by omega) (by omega), if_neg (by assumption)]
      · rw [if_neg q]
      · rw [if_pos (by omega), if_pos (by omega)]
    · have HN := H2 hv hw
      obtain ⟨a0, a1, b0, b1, c0, c1⟩ := hv
      clear H1 H2 H3
      repeat' (first | exact HN | (exfalso; omega) | (apply br_i <;> intro _) | apply b202_0 | apply z136 | apply b202_17 | apply z137 | apply b202_24 | apply z134 | apply b202_44 | apply z135 | apply b202_56 | apply an_i | decide | omega)
  · have HN := H3 hv
    unfold vBolt at hv
    clear H1 H2 H3
    repeat' (first | exact HN | (exfalso; omega) | (apply br_i <;> intro _) | apply b202_0 | apply z136 | apply b202_17 | apply z137 | apply b202_24 | apply b202_27 | apply z135 | apply b202_35 | apply an_i | decide | omega)
theorem j_scr {g : HP} (hR : R h) (sg : SCR h g) : g 69 17 = h 12 1 := by
  rw [(R_cnt (R_scr sg hR)).1.2.1, sg.1 12 (by decide)]
theorem j_rf {a : Int} (hR : R h) : rfC h a 69 17 = h 12 1 := by
  rw [rfC_p (by decide)]; exact (R_cnt hR).1.2.1
theorem p_bolt (hR : R h) : X (d + 10) 106 0 [some (P 0), some (I v1), some (I v2), some (I v3), some (I v4), none] [] h (fun r h1 => X (d + 10) 202 0 [some (P 69), some (I v1), some (I v2), some (I v3), some (I v4), none] [] h1 (fun r' h2 => EQA r r' h2)) :=
  c_bolt hR (fun hv g y sg ey => m_bolt (n_scr hR sg) (j_scr hR sg) (fun _ => ⟨R_scr sg hR, fun g2 y2 s2 ey2 => ⟨by rw [ey, ey2, BOLT_s sg], R_scr s2 (R_scr sg hR)⟩⟩) (fun _ hn => absurd hv.2 hn) (fun hn => absurd hv.1 hn))
    (fun hv hn => m_bolt (n_rf hR) (j_rf hR) (fun hv => absurd hv.2 hn) (fun _ _ => EQA_rf hR) (fun hn => absurd hv hn))
    (fun hn => m_bolt (n_rf hR) (j_rf hR) (fun hv => absurd hv.1 hn) (fun hv => absurd hv hn) (fun _ => EQA_rf hR))
/-- the joint that matters most -/
def matF (f : Nat → Int) : Nat → Nat → Int → Int → Int
  | 0, _, best, _ => best
  | k + 1, j, best, most => if f j ≤ most then matF f k (j + 1) best most else matF f k (j + 1) j (f j)
def absF (x : Int) : Int := if 0 ≤ x then x else -x
noncomputable def MAT (h : HP) (hr p : Nat) : Nat → Int := fun j => absF (RLD h hr p j 0 - REST h hr p)
theorem MAT_s {g : HP} (a : SCR h g) {hr p : Nat} : MAT g hr p = MAT h hr p := by
  funext j
  unfold MAT
  rw [RLD_s a, REST_s a]
set_option maxHeartbeats 4000000 in
theorem c_matters (hR : R h) (H1 : vRest (h 2 0) v1 v2 → ∀ g y, SCR h g → y = matF (MAT h v2.toNat v1.toNat) (h 12 1).toNat 0 (-9) (-1) → Q (I y) g) (H2 : ¬ vRest (h 2 0) v1 v2 → Q (I (-1)) (rfC h (-1))) : X (d + 10) 107 0 [some (P 0), some (I v1), some (I v2), none, none, none, none, none] [] h Q := by
  by_cases hv : vRest (h 2 0) v1 v2
  · have HN := H1 hv
    obtain ⟨a0, a1, b0, b1⟩ := hv
    clear H1 H2
    have cn := R_cnt hR
    have L : ∀ k i : Nat, i + k = (h 12 1).toNat → ∀ (g : HP) (bf best most : Int), bf = REST h v2.toNat v1.toNat → 0 ≤ bf → bf ≤ 600 → SCR h g → SCE g (h 34 v2.toNat) (h 30 5) 100 100 (h 25) (hnF h) (h 21) (h 9) (h 23) (h 15) z0F → (∀ g y, SCR h g → y = matF (MAT h v2.toNat v1.toNat) k i best most → Q (I y) g) → X (d + 10) 107 50 [some (P 0), some (I v1), some (I v2), some (I bf), some (I best), some (I most), some (I i), none] [] g Q := by
      intro k
      induction k with
      | zero =>
        intro i hi g bf best most eb b0 b6 sg hS HQ
        exact b107_50 (br_i (fun _ => HQ g _ sg rfl) (fun q => absurd (by rw [sg.1 12 (by decide)]; omega) q))
      | succ k ih =>
        intro i hi g bf best most eb b0 b6 sg hS HQ
        refine b107_50 (br_i (fun q => absurd q (by rw [sg.1 12 (by decide)]; omega)) (fun _ => an_i (by omega) (by omega) ?_))
        simp only [Int.toNat_natCast]
        have s2 : SCR h (up2 g 43 i 0) := SCR_u sg (by decide)
        have S2 := SCE_ld (j := i) (v := 0) (by omega) (by omega) hS
        refine c_scp (R_scr s2 hR) s2 S2 a0 (by rw [s2.1 2 (by decide)]; exact a1) (fun k2 y f e y0 y6 => b107_84 ?_)
        rw [w32_of (by omega) (by omega)]
        have s3 : SCR h k2 := SCR_FS s2 f
        have S3 := SCE_ld (j := i) (v := h 15 i) (R15 hR i).1 (R15 hR i).2 (SCE_FS f S2)
        rw [st1_2, st1_id] at S3
        have eM : absF (y - bf) = MAT h v2.toNat v1.toNat i := by unfold MAT; rw [eb, e]; rfl
        have F : ∀ v, v = absF (y - bf) → X (d + 10) 107 89 [some (P 0), some (I v1), some (I v2), some (I bf), some (I best), some (I most), some (I i), none] [I v] k2 Q := by
          intro v hv
          rw [eM] at hv
          refine b107_89 (an_i (by omega) (by omega) (an_i (by omega) (by omega) ?_))
          rw [s3.1 15 (by decide)]
          simp only [Int.toNat_natCast]
          refine br_i (fun q => b107_129 ?_) (fun q => b107_129 ?_)
          · rw [w32_n (by omega)]
            refine ih (i + 1) (by omega) _ bf best most eb b0 b6 (SCR_u s3 (by decide)) S3 (fun g y s ey => HQ g y s ?_)
            rw [ey]
            show _ = (if MAT h _ _ i ≤ most then _ else _)
            rw [if_pos (by rw [← hv]; exact q)]
          · rw [w32_n (by omega)]
            refine ih (i + 1) (by omega) _ bf _ _ eb b0 b6 (SCR_u s3 (by decide)) S3 (fun g y s ey => HQ g y s ?_)
            rw [ey]
            show _ = (if MAT h _ _ i ≤ most then _ else _)
            rw [if_neg (by rw [← hv]; exact q), hv]
        refine z223 (br_i (fun q => F _ ?_) (fun q => F _ ?_))
        · unfold absF; rw [if_pos q]
        · unfold absF; rw [if_neg q, w32_of (by omega) (by omega)]
    repeat' (first | (exfalso; omega) | (apply br_i <;> intro _) | apply b107_0 | apply z124 | apply b107_5 | apply z123 | apply b107_14 | apply an_i | decide | omega)
    exact c_asNow hR b0 b1 (fun g o hN => b107_31 (c_scp (R_scr (o_scr o) hR) (o_scr o) (NOW_s hR o hN) a0 (by rw [o 2 (by decide) (by decide) (by decide)]; exact a1) (fun k y f e y0 y6 => b107_39 (L (h 12 1).toNat 0 (by omega) k y (-9) (-1) e y0 y6 (SCR_FS (o_scr o) f) (SCE_FS f (NOW_s hR o hN)) HN))))
  · have HN := H2 hv
    unfold vRest at hv
    clear H1 H2
    repeat' (first | exact HN | (exfalso; omega) | (apply br_i <;> intro _) | apply b107_0 | apply z124 | apply b107_5 | apply z123 | apply b107_14 | apply b107_17 | apply z121 | apply b107_22 | apply an_i | decide | omega)
set_option maxHeartbeats 4000000 in
theorem m_matters (e : h 69 9 = n) (H1 : vRest n v1 v2 → R h ∧ ∀ g y, SCR h g → y = matF (MAT h v2.toNat v1.toNat) (h 12 1).toNat 0 (-9) (-1) → Q (I y) g) (H2 : ¬ vRest n v1 v2 → Q (I (-1)) (rfM h (-1))) : X (d + 10) 203 0 [some (P 69), some (I v1), some (I v2), none, none, none, none] [] h Q := by
  by_cases hv : vRest n v1 v2
  · obtain ⟨hR, HN⟩ := H1 hv
    obtain ⟨a0, a1, b0, b1⟩ := hv
    obtain ⟨⟨cn1, cn2, -⟩, cn3, cn4, -⟩ := R_cnt hR
    clear H1 H2
    have L : ∀ k i : Nat, i + k = (h 12 1).toNat → ∀ (g : HP) (best most : Int), SCR h g → (∀ g y, SCR h g → y = matF (MAT h v2.toNat v1.toNat) k i best most → Q (I y) g) → X (d + 10) 203 30 [some (P 69), some (I v1), some (I v2), some (I best), some (I most), some (I i), none] [] g Q := by
      intro k
      induction k with
      | zero =>
        intro i hi g best most sg HQ
        exact b203_30 (br_i (fun _ => HQ g _ sg rfl) (fun q => absurd (by rw [j_scr hR sg]; omega) q))
      | succ k ih =>
        intro i hi g best most sg HQ
        refine b203_30 (br_i (fun q => absurd q (by rw [j_scr hR sg]; omega)) (fun _ => ?_))
        refine m_change (R_scr sg hR) (by omega) (by rw [sg.1 12 (by decide)]; omega) a0 (by rw [sg.1 2 (by decide)]; omega) b0 b1 (by omega) (by omega) (fun k2 y s2 ey y0 y6 => b203_48 ?_)
        rw [RLD_s sg, REST_s sg] at ey
        simp only [Int.toNat_natCast] at ey
        have F : ∀ v u, v = absF y → X (d + 10) 203 63 [some (P 69), some (I v1), some (I v2), some (I best), some (I most), some (I i), some (I u)] [I v] k2 Q := by
          intro v u hv
          have eM : v = MAT h v2.toNat v1.toNat i := by unfold MAT; rw [hv, ey]
          refine b203_63 (br_i (fun q => b203_79 ?_) (fun q => b203_79 ?_))
          · rw [w32_n (by omega)]
            refine ih (i + 1) (by omega) _ best most (SCR_t sg s2) (fun g y s ey => HQ g y s ?_)
            rw [ey]
            show _ = (if MAT h _ _ i ≤ most then _ else _)
            rw [if_pos (by rw [← eM]; exact q)]
          · rw [w32_n (by omega)]
            refine ih (i + 1) (by omega) _ _ _ (SCR_t sg s2) (fun g y s ey => HQ g y s ?_)
            rw [ey]
            show _ = (if MAT h _ _ i ≤ most then _ else _)
            rw [if_neg (by rw [← eM]; exact q), eM]
        refine br_i (fun q => F _ _ ?_) (fun q => F _ _ ?_)
        · unfold absF; rw [if_pos q]
        · unfold absF; rw [if_neg q, w32_of (by omega) (by omega)]
    repeat' (first | (exfalso; omega) | (apply br_i <;> intro _) | apply b203_0 | apply z136 | apply b203_5 | apply z137 | apply b203_12 | apply an_i | decide | omega)
    exact L (h 12 1).toNat 0 (by omega) h (-9) (-1) (SCR_r h) HN
  · have HN := H2 hv
    unfold vRest at hv
    clear H1 H2
    repeat' (first | exact HN | (exfalso; omega) | (apply br_i <;> intro _) | apply b203_0 | apply z136 | apply b203_5 | apply z137 | apply b203_12 | apply b203_15 | apply z135 | apply b203_20 | apply an_i | decide | omega)
theorem p_matters (hR : R h) : X (d + 10) 107 0 [some (P 0), some (I v1), some (I v2), none, none, none, none, none] [] h (fun r h1 => X (d + 10) 203 0 [some (P 69), some (I v1), some (I v2), none, none, none, none] [] h1 (fun r' h2 => EQA r r' h2)) :=
  c_matters hR (fun hv g y sg ey => m_matters (n_scr hR sg) (fun _ => ⟨R_scr sg hR, fun g2 y2 s2 ey2 => ⟨by rw [ey, ey2, MAT_s sg, sg.1 12 (by decide)], R_scr s2 (R_scr sg hR)⟩⟩) (fun hn => absurd hv hn)) (fun hn => m_matters (n_rf hR) (fun hv => absurd hv hn) (fun _ => EQA_rf hR))
end P44
