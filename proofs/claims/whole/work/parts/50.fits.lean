/-! pair: fits -/
def fitF (f db : Nat → Int) : Nat → Nat → Int
  | 0, _ => 1
  | k + 1, t => if f t ≤ db t then fitF f db k (t + 1) else 0
theorem fitF_y {f db : Nat → Int} {k t : Nat} (c : f t ≤ db t) : fitF f db (k + 1) t = fitF f db k (t + 1) := if_pos c
theorem fitF_n {f db : Nat → Int} {k t : Nat} (c : ¬ f t ≤ db t) : fitF f db (k + 1) t = 0 := if_neg c
theorem fitF_r {f db : Nat → Int} : ∀ k t : Nat, fitF f db k t = 0 ∨ fitF f db k t = 1
  | 0, _ => Or.inr rfl
  | k + 1, t => by
    by_cases c : f t ≤ db t
    · rw [fitF_y c]; exact fitF_r k (t + 1)
    · rw [fitF_n c]; exact Or.inl rfl
noncomputable def FIT (h : HP) (j : Nat) (l : Int) : Int := fitF (fun t => absF (CAN h j l t - h 65 t)) (h 66) (h 61 0).toNat 0
theorem FIT_s {h g : HP} (a : SCR h g) {j : Nat} {l : Int} : FIT g j l = FIT h j l := by
  unfold FIT
  have : (fun t => absF (CAN g j l t - g 65 t)) = (fun t => absF (CAN h j l t - h 65 t)) := by
    funext t
    rw [CAN_s a, a.1 65 (by decide)]
  rw [this, a.1 66 (by decide), a.1 61 (by decide)]
def frec (ft : Nat → Int) (what : Int) : Nat → Nat → Int → Int → Int → Int
  | 0, _, f, le, gr => if what = 0 then f else if what = 1 then le else gr
  | k + 1, l, f, le, gr => if ft l = 0 then frec ft what k (l + 1) f le gr else frec ft what k (l + 1) (f + 1) (if le = -9 then (l : Int) else le) l
theorem frec_n {ft : Nat → Int} {what : Int} {k l : Nat} {f le gr : Int} (c : ft l = 0) : frec ft what (k + 1) l f le gr = frec ft what k (l + 1) f le gr := if_pos c
theorem frec_y {ft : Nat → Int} {what : Int} {k l : Nat} {f le gr : Int} (c : ¬ ft l = 0) : frec ft what (k + 1) l f le gr = frec ft what k (l + 1) (f + 1) (if le = -9 then (l : Int) else le) l := if_neg c
section P50
variable {d : Nat} {h g : HP} {Q : PV → HP → Prop} {v1 v2 v3 v4 n m : Int} {sun yr wb sb : Int} {wk bn fz dr st ld ex : Nat → Int}
theorem SCE_open (hS : SCE g sun yr wb sb wk bn fz dr st ld ex) : SCE (up2 g 41 9 1) sun yr wb sb wk bn fz (fun _ => 2) st ld ex := by
  obtain ⟨e, x1, x2, x3, x4, x5, ⟨x6, x7, x8, x9⟩⟩ := hS
  unfold SCE SCN drC exC at *
  simp only [up_p, up_i, up_s, ne_eq, Nat.reduceEqDiff, not_false_eq_true]
  exact ⟨e, x1, x2, x3, fun p hp => ⟨if_neg (by decide), (x4 p hp).2⟩, x5, x6, x7, x8, x9⟩
theorem SCE_ex {a b : Int} (a0 : 0 ≤ a) (a1 : a < 8) (b0 : 0 ≤ b) (b1 : b ≤ 999) (hS : SCE g sun yr wb sb wk bn fz dr st ld ex) : SCE (up2 (up2 g 41 10 a) 41 11 b) sun yr wb sb wk bn fz dr st ld (fun p => if a = p then b else 0) := by
  obtain ⟨e, x1, x2, x3, x4, x5, ⟨x6, ⟨y1, y2, y3, y4, y5⟩, x8, x9⟩⟩ := hS
  unfold SCE SCN drC exC at *
  simp only [up_p, up_i, up_s, ne_eq, Nat.reduceEqDiff, not_false_eq_true]
  exact ⟨e, x1, x2, x3, fun p hp => ⟨(x4 p hp).1, trivial⟩, x5, x6, ⟨y1, y2, y3, ⟨a0, a1⟩, ⟨b0, b1⟩⟩, x8, x9⟩
set_option maxHeartbeats 4000000 in
theorem c_atf {j : Nat} {l : Int} (hR : R h) (sg0 : SCR h g) (hS0 : SCE g 0 (h 30 5) 100 100 z0F z0F (h 21) (fun _ => 2) (h 23) (st1 (h 15) j l) ex) (H : ∀ k ex', SCR h k → SCE k 0 (h 30 5) 100 100 z0F z0F (h 21) (fun _ => 2) (h 23) (st1 (h 15) j l) ex' → Q (I (FIT h j l)) k) : X (d + 6) 131 0 [some (P 0), none, none] [] g Q := by
  obtain ⟨⟨q1, q2, q3⟩, ⟨s1, s2, s3, s4, s5⟩, u1, u2, u3, u4, u5, u6, u7⟩ := R_tri hR
  have n8 := (R_cnt hR).2.1
  have L : ∀ c i : Nat, i + c = (h 61 0).toNat → ∀ (g : HP) (ex : Nat → Int), SCR h g → SCE g 0 (h 30 5) 100 100 z0F z0F (h 21) (fun _ => 2) (h 23) (st1 (h 15) j l) ex → (∀ k ex', SCR h k → SCE k 0 (h 30 5) 100 100 z0F z0F (h 21) (fun _ => 2) (h 23) (st1 (h 15) j l) ex' → Q (I (fitF (fun t => absF (CAN h j l t - h 65 t)) (h 66) c i)) k) → X (d + 6) 131 2 [some (P 0), some (I i), none] [] g Q := by
    intro c
    induction c with
    | zero =>
      intro i hi g ex sg hS HQ
      exact b131_2 (br_i (fun _ => HQ g ex sg hS) (fun q => absurd (by rw [sg.1 61 (by decide)]; omega) q))
    | succ c ih =>
      intro i hi g ex sg hS HQ
      have x62 := u1 i
      have x63 := u3 i
      have x64 := u4 i
      have y64 := u5 i (by omega)
      have x65 := u6 i
      have x66 := u7 i
      refine b131_2 (br_i (fun q => absurd q (by rw [sg.1 61 (by decide)]; omega)) (fun _ => an_i (by omega) (by omega) (an_i (by omega) (by omega) (an_i (by omega) (by omega) ?_))))
      rw [sg.1 62 (by decide), sg.1 63 (by decide), sg.1 64 (by decide)]
      simp only [Int.toNat_natCast]
      have s2 : SCR h (up2 (up2 g 41 10 (h 62 i)) 41 11 (h 63 i)) := SCR_u (SCR_u sg (by decide)) (by decide)
      have S2 := SCE_ex x62.1 (by omega) x63.1 x63.2 hS
      refine c_scp (R_scr s2 hR) s2 S2 x64.1 (by rw [s2.1 2 (by decide)]; exact y64) (fun k y f e y0 y6 => b131_61 (an_i (by omega) (by omega) ?_))
      have sk : SCR h k := SCR_FS s2 f
      rw [sk.1 65 (by decide)]
      simp only [Int.toNat_natCast]
      rw [w32_of (x := y - h 65 i) (by omega) (by omega)]
      have eC : y = CAN h j l i := e
      have F : ∀ v u, v = absF (CAN h j l i - h 65 i) → X (d + 6) 131 76 [some (P 0), some (I i), some (I u)] [I v] k Q := by
        intro v u hv
        refine b131_76 (an_i (by omega) (by omega) ?_)
        rw [sk.1 66 (by decide)]
        simp only [Int.toNat_natCast]
        refine br_i (fun q => ?_) (fun q => ?_)
        · rw [w32_n (by omega)]
          refine ih (i + 1) (by omega) k _ sk (SCE_FS f S2) (fun k' ex' s' S' => ?_)
          have := HQ k' ex' s' S'
          rw [fitF_y (by rw [hv] at q; exact q)] at this
          exact this
        · have := HQ k _ sk (SCE_FS f S2)
          rw [fitF_n (by rw [hv] at q; exact q)] at this
          exact this
      refine z223 (br_i (fun q => F _ _ ?_) (fun q => F _ _ ?_))
      · unfold absF; rw [if_pos (by omega), eC]
      · unfold absF; rw [if_neg (by omega), w32_of (by omega) (by omega), eC]
  exact b131_0 (L (h 61 0).toNat 0 (by omega) g ex sg0 hS0 H)
def vFits (m v1 : Int) : Prop := 0 ≤ v1 ∧ v1 < m
set_option maxHeartbeats 4000000 in
theorem c_fits (hR : R h) (H1 : vFits (h 12 1) v1 → (0 ≤ v2 ∧ v2 < 3) → ∀ g y, SCR h g → y = frec (fun l => FIT h v1.toNat l) v2 40 1 0 (-9) (-9) → Q (I y) g) (H2 : vFits (h 12 1) v1 → ¬ (0 ≤ v2 ∧ v2 < 3) → Q (I (-2)) (rfC h (-2))) (H3 : ¬ vFits (h 12 1) v1 → Q (I (-1)) (rfC h (-1))) : X (d + 10) 109 0 [some (P 0), some (I v1), some (I v2), none, none, none, none] [] h Q := by
  by_cases hv : vFits (h 12 1) v1
  · by_cases hw : 0 ≤ v2 ∧ v2 < 3
    · have HN := H1 hv hw
      obtain ⟨a0, a1⟩ := hv
      obtain ⟨w0, w1⟩ := hw
      clear H1 H2 H3
      have cn := R_cnt hR
      obtain ⟨j, rfl⟩ := Int.eq_ofNat_of_zero_le a0
      simp only [Int.toNat_natCast] at HN
      have L : ∀ c l : Nat, l + c = 41 → 1 ≤ l → ∀ (g : HP) (ex ld : Nat → Int) (f le gr : Int), 0 ≤ f → f ≤ l → (le = -9 ∨ 1 ≤ le) → SCR h g → (∀ v, st1 ld j v = st1 (h 15) j v) → SCE g 0 (h 30 5) 100 100 z0F z0F (h 21) (fun _ => 2) (h 23) ld ex → (∀ g y, SCR h g → y = frec (fun l => FIT h j l) v2 c l f le gr → Q (I y) g) → X (d + 10) 109 58 [some (P 0), some (I (j : Int)), some (I v2), some (I f), some (I le), some (I gr), some (I (l : Int))] [] g Q := by
        intro c
        induction c with
        | zero =>
          intro l hl l1 g ex ld f le gr f0 f1 hle sg hld hS HQ
          refine b109_58 (br_i (fun _ => br_i (fun q => br_i (fun q2 => HQ g _ sg ?_) (fun q2 => HQ g _ sg ?_)) (fun q => HQ g _ sg ?_)) (fun q => absurd (by omega) q))
          · show _ = (if v2 = 0 then _ else if v2 = 1 then _ else _)
            rw [if_neg q, if_neg q2]
          · show _ = (if v2 = 0 then _ else if v2 = 1 then _ else _)
            rw [if_neg q, if_pos (by omega)]
          · show _ = (if v2 = 0 then _ else if v2 = 1 then _ else _)
            rw [if_pos (by omega)]
        | succ c ih =>
          intro l hl l1 g ex ld f le gr f0 f1 hle sg hld hS HQ
          refine b109_58 (br_i (fun q => absurd q (by omega)) (fun _ => an_i (by omega) (by omega) ?_))
          simp only [Int.toNat_natCast]
          have S2 := SCE_ld (j := j) (v := (l : Int)) (by omega) (by omega) hS
          rw [hld] at S2
          refine c_atf hR (SCR_u sg (by decide)) S2 (fun k ex' sk Sk => b109_80 ?_)
          have hld2 : ∀ v, st1 (st1 (h 15) j (l : Int)) j v = st1 (h 15) j v := fun v => st1_2
          rcases fitF_r (f := fun t => absF (CAN h j l t - h 65 t)) (db := h 66) (h 61 0).toNat 0 with e | e
          · have e' : FIT h j l = 0 := e
            refine br_i (fun q => absurd e' q) (fun _ => b109_104 ?_)
            rw [w32_n (by omega)]
            exact ih (l + 1) (by omega) (by omega) k ex' _ f le gr f0 (by omega) hle sk hld2 Sk (fun g y s ey => HQ g y s (by rw [ey, frec_n (ft := fun l : Nat => FIT h j (l : Int)) (l := l) e']))
          · have e' : FIT h j l = 1 := e
            refine br_i (fun _ => ?_) (fun q => absurd (by rw [e']; decide) q)
            rw [w32_of (x := f + 1) (by omega) (by omega)]
            refine br_i (fun q => b109_104 ?_) (fun q => b109_104 ?_)
            · rw [w32_n (by omega)]
              exact ih (l + 1) (by omega) (by omega) k ex' _ (f + 1) le l (by omega) (by omega) hle sk hld2 Sk (fun g y s ey => HQ g y s (by rw [ey, frec_y (ft := fun l : Nat => FIT h j (l : Int)) (l := l) (show ¬ FIT h j l = 0 by rw [e']; decide), if_neg q]))
            · rw [w32_n (by omega)]
              exact ih (l + 1) (by omega) (by omega) k ex' _ (f + 1) l l (by omega) (by omega) (Or.inr (by omega)) sk hld2 Sk (fun g y s ey => HQ g y s (by rw [ey, frec_y (ft := fun l : Nat => FIT h j (l : Int)) (l := l) (show ¬ FIT h j l = 0 by rw [e']; decide), if_pos (by omega)]))
      repeat' (first | (exfalso; omega) | (apply br_i <;> intro _) | apply b109_0 | apply z123 | apply b109_14 | apply b109_28 | apply an_i | decide | omega)
      refine b58_0 (c_asNow hR (by decide) (by decide) (fun g o hN => b58_5 (c_only (c := 0) hR o hN (by decide) (fun k ok S => b58_10 (b109_45 ?_)))))
      have S' : SCE k 0 (h 30 5) 100 100 z0F z0F (h 21) (h 9) (h 23) (h 15) z0F := S
      exact L 40 1 rfl (by decide) _ z0F (h 15) 0 (-9) (-9) (by decide) (by decide) (Or.inl rfl) (SCR_u (o_scr ok) (by decide)) (fun v => rfl) (SCE_open S') HN
    · have HN := H2 hv hw
      obtain ⟨a0, a1⟩ := hv
      clear H1 H2 H3
      repeat' (first | exact HN | (exfalso; omega) | (apply br_i <;> intro _) | apply b109_0 | apply z123 | apply b109_14 | apply b109_28 | apply z121 | apply b109_37 | apply an_i | decide | omega)
  · have HN := H3 hv
    unfold vFits at hv
    clear H1 H2 H3
    repeat' (first | exact HN | (exfalso; omega) | (apply br_i <;> intro _) | apply b109_0 | apply z123 | apply b109_14 | apply z121 | apply b109_22 | apply an_i | decide | omega)
set_option maxHeartbeats 4000000 in
theorem m_fits (e17 : h 69 17 = m) (H1 : vFits m v1 → (0 ≤ v2 ∧ v2 < 3) → R h ∧ ∀ g y, SCR h g → y = frec (fun l => FIT h v1.toNat l) v2 40 1 0 (-9) (-9) → Q (I y) g) (H2 : vFits m v1 → ¬ (0 ≤ v2 ∧ v2 < 3) → Q (I (-2)) (rfM h (-2))) (H3 : ¬ vFits m v1 → Q (I (-1)) (rfM h (-1))) : X (d + 10) 207 0 [some (P 69), some (I v1), some (I v2), none, none, none, none, none, none, none] [] h Q := by
  by_cases hv : vFits m v1
  · by_cases hw : 0 ≤ v2 ∧ v2 < 3
    · obtain ⟨hR, HN⟩ := H1 hv hw
      obtain ⟨a0, a1⟩ := hv
      obtain ⟨w0, w1⟩ := hw
      clear H1 H2 H3
      obtain ⟨⟨cn1, cn2, -⟩, n8, j20, -⟩ := R_cnt hR
      obtain ⟨⟨q1, q2, q3⟩, ⟨s1, s2, s3, s4, s5⟩, u1, u2, u3, u4, u5, u6, u7⟩ := R_tri hR
      obtain ⟨j, rfl⟩ := Int.eq_ofNat_of_zero_le a0
      simp only [Int.toNat_natCast] at HN
      have T : ∀ c i : Nat, i + c = (h 61 0).toNat → ∀ (g : HP) (f le gr : Int) (l : Nat), l ≤ 40 → SCR h g → (∀ k v8, SCR h k → X (d + 10) 207 121 [some (P 69), some (I (j : Int)), some (I v2), some (I f), some (I le), some (I gr), some (I (l : Int)), some (I (fitF (fun t => absF (CAN h j l t - h 65 t)) (h 66) c i)), some (I v8), none] [] k Q) → X (d + 10) 207 60 [some (P 69), some (I (j : Int)), some (I v2), some (I f), some (I le), some (I gr), some (I (l : Int)), some (I 1), some (I (i : Int)), none] [] g Q := by
        intro c
        induction c with
        | zero =>
          intro i hi g f le gr l hl sg HQ
          refine b207_60 (br_i (fun _ => HQ g _ sg) (fun q => absurd (by rw [sg.2 83 rfl, ← q1]; omega) q))
        | succ c ih =>
          intro i hi g f le gr l hl sg HQ
          have x65 := u6 i
          have x66 := u7 i
          refine b207_60 (br_i (fun q => absurd q (by rw [sg.2 83 rfl, ← q1]; omega)) (fun _ => br_i (fun q => absurd q (by decide)) (fun _ => ?_)))
          refine m_can (R_scr sg hR) (by rw [sg.1 61 (by decide)]; omega) (by rw [sg.1 12 (by decide)]; omega) (by omega) (by omega) (fun k y sk ey y0 y6 => b207_83 (an_i (by omega) (by omega) (an_i (by omega) (by omega) (an_i (by omega) (by omega) ?_))))
          rw [CAN_s sg] at ey
          have sk2 : SCR h k := SCR_t sg sk
          rw [sk2.1 118 (by decide), sk2.1 119 (by decide), ← s4, ← s5]
          simp only [Int.toNat_natCast]
          rw [w32_of (x := y - h 65 i) (by omega) (by omega), w32_of (x := -h 66 i) (by omega) (by omega)]
          have fN : ¬ absF (CAN h j l i - h 65 i) ≤ h 66 i → X (d + 10) 207 113 [some (P 69), some (I (j : Int)), some (I v2), some (I f), some (I le), some (I gr), some (I (l : Int)), some (I 1), some (I (i : Int)), some (I (y - h 65 i))] [I 0] k Q := by
            intro cn
            refine b207_113 ?_
            have e := HQ k (w32 ((i : Int) + 1)) sk2
            rw [fitF_n (f := fun t => absF (CAN h j l t - h 65 t)) cn] at e
            exact b207_60 (br_i (fun _ => e) (fun _ => br_i (fun _ => e) (fun q => absurd rfl q)))
          refine z134 (br_i (fun q => fN ?_) (fun q => br_i (fun qq => fN ?_) (fun qq => b207_113 ?_)))
          · unfold absF; rw [← ey, if_neg (by omega)]; omega
          · unfold absF; rw [← ey, if_pos (by omega)]; omega
          · rw [w32_n (by omega)]
            refine ih (i + 1) (by omega) k f le gr l hl sk2 (fun k' v8 s' => ?_)
            have e := HQ k' v8 s'
            rw [fitF_y (f := fun t => absF (CAN h j l t - h 65 t)) (by
              show absF (CAN h j l i - h 65 i) ≤ h 66 i
              unfold absF
              rw [← ey]
              split <;> omega)] at e
            exact e
      have L : ∀ c l : Nat, l + c = 41 → 1 ≤ l → ∀ (g : HP) (f le gr : Int), 0 ≤ f → f ≤ l → (le = -9 ∨ 1 ≤ le) → SCR h g → (∀ g y, SCR h g → y = frec (fun l => FIT h j l) v2 c l f le gr → Q (I y) g) → X (d + 10) 207 47 [some (P 69), some (I (j : Int)), some (I v2), some (I f), some (I le), some (I gr), some (I (l : Int)), none, none, none] [] g Q := by
        intro c
        induction c with
        | zero =>
          intro l hl l1 g f le gr f0 f1 hle sg HQ
          refine b207_47 (br_i (fun _ => br_i (fun q => br_i (fun qq => HQ g _ sg ?_) (fun qq => HQ g _ sg ?_)) (fun q => HQ g _ sg ?_)) (fun q => absurd (by omega) q))
          · show _ = (if v2 = 0 then _ else if v2 = 1 then _ else _)
            rw [if_neg q, if_neg qq]
          · show _ = (if v2 = 0 then _ else if v2 = 1 then _ else _)
            rw [if_neg q, if_pos (by omega)]
          · show _ = (if v2 = 0 then _ else if v2 = 1 then _ else _)
            rw [if_pos (by omega)]
        | succ c ih =>
          intro l hl l1 g f le gr f0 f1 hle sg HQ
          refine b207_47 (br_i (fun q => absurd q (by omega)) (fun _ => T (h 61 0).toNat 0 (by omega) g f le gr l (by omega) sg (fun k v8 sk => ?_)))
          rcases fitF_r (f := fun t => absF (CAN h j l t - h 65 t)) (db := h 66) (h 61 0).toNat 0 with e | e
          · have e' : FIT h j l = 0 := e
            rw [e]
            refine b207_121 (br_i (fun _ => b207_136 (b207_138 (br_i (fun _ => b207_152 (br_i (fun _ => b207_165 ?_) (fun q => absurd rfl q))) (fun q => absurd rfl q)))) (fun q => absurd rfl q))
            rw [w32_n (by omega), Int.add_zero, w32_of (x := f) (by omega) (by omega)]
            exact ih (l + 1) (by omega) (by omega) k f le gr f0 (by omega) hle sk (fun g y s ey => HQ g y s (by rw [ey, frec_n (ft := fun l : Nat => FIT h j (l : Int)) (l := l) e']))
          · have e' : ¬ FIT h j l = 0 := by
              have e2 : FIT h j l = 1 := e
              rw [e2]; decide
            rw [e]
            have K : ∀ le', le' = (if le = -9 then (l : Int) else le) → (le' = -9 ∨ 1 ≤ le') → X (d + 10) 207 138 [some (P 69), some (I (j : Int)), some (I v2), some (I f), some (I le), some (I gr), some (I (l : Int)), some (I 1), some (I v8), none] [I le'] k Q := by
              intro le' hl' hr'
              refine b207_138 (br_i (fun q => absurd q (by decide)) (fun _ => b207_152 (br_i (fun q => absurd q (by decide)) (fun _ => b207_165 ?_))))
              rw [w32_n (by omega), w32_of (x := f + 1) (by omega) (by omega)]
              exact ih (l + 1) (by omega) (by omega) k (f + 1) le' l (by omega) (by omega) hr' sk (fun g y s ey => HQ g y s (by rw [ey, frec_y (ft := fun l : Nat => FIT h j (l : Int)) (l := l) e', hl']))
            refine b207_121 (br_i (fun q => absurd q (by decide)) (fun _ => br_i (fun q => b207_136 (K le ?_ hle)) (fun q => K l ?_ (Or.inr (by omega)))))
            · rw [if_neg (by omega)]
            · rw [if_pos (by omega)]
      repeat' (first | (exfalso; omega) | (apply br_i <;> intro _) | apply b207_0 | apply z134 | apply b207_24 | apply an_i | decide | omega)
      exact L 40 1 rfl (by decide) h 0 (-9) (-9) (by decide) (by decide) (Or.inl rfl) (SCR_r h) HN
    · have HN := H2 hv hw
      obtain ⟨a0, a1⟩ := hv
      clear H1 H2 H3
      repeat' (first | exact HN | (exfalso; omega) | (apply br_i <;> intro _) | apply b207_0 | apply z134 | apply b207_24 | apply z135 | apply b207_33 | apply an_i | decide | omega)
  · have HN := H3 hv
    unfold vFits at hv
    clear H1 H2 H3
    repeat' (first | exact HN | (exfalso; omega) | (apply br_i <;> intro _) | apply b207_0 | apply z134 | apply b207_12 | apply z135 | apply b207_17 | apply an_i | decide | omega)
theorem p_fits (hR : R h) : X (d + 10) 109 0 [some (P 0), some (I v1), some (I v2), none, none, none, none] [] h (fun r h1 => X (d + 10) 207 0 [some (P 69), some (I v1), some (I v2), none, none, none, none, none, none, none] [] h1 (fun r' h2 => EQA r r' h2)) :=
  c_fits hR (fun hv hw g y sg ey => m_fits (j_scr hR sg) (fun _ _ => ⟨R_scr sg hR, fun g2 y2 s2 ey2 => ⟨by
      have e : (fun l : Nat => FIT g v1.toNat (l : Int)) = (fun l : Nat => FIT h v1.toNat (l : Int)) := funext (fun l => FIT_s sg)
      rw [e] at ey2
      rw [ey, ey2], R_scr s2 (R_scr sg hR)⟩⟩) (fun _ hn => absurd hw hn) (fun hn => absurd hv hn))
    (fun hv hn => m_fits (j_rf hR) (fun _ hw => absurd hw hn) (fun _ _ => EQA_rf hR) (fun hn => absurd hv hn))
    (fun hn => m_fits (j_rf hR) (fun hv => absurd hv hn) (fun hv => absurd hv hn) (fun _ => EQA_rf hR))
end P50
