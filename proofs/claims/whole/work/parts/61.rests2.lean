/-! rests: the model; the pair -/
section P61
variable {d : Nat} {h : HP} {Q : PV → HP → Prop} {v1 v2 v3 v4 n m : Int}
theorem tq_n {t : Int} (h : t = -1 ∨ 0 ≤ t) : (tq t < 0 ↔ t < 0) ∧ (¬ t < 0 → tq t = t) := by
  unfold tq
  rcases h with e | e
  · rw [if_pos (by omega)]; omega
  · rw [if_neg (by omega)]; omega
theorem m_ruled {g : HP} {k : Nat} (hR : R h) (a : SCR h g) (k4 : k < 4) (H1 : rul h k → Q (I 1) g) (H0 : ¬ rul h k → Q (I 0) g) : X d 189 0 [some (P 69), some (I (k : Int))] [] g Q := by
  have e95 : h 95 = h 29 := by
    obtain ⟨⟨r1, r2, r3, r4, r5, r6, r7, r8⟩, ⟨r9, r10, r11, r12, r13⟩, ⟨r14, r15, r16, r17, r18, r19, r20⟩, ⟨r21, r22, r23, r24, r25, r26⟩, ⟨r27, r28, r29, r30, r31⟩, ⟨r32, r33⟩, ⟨r34, r35, r36, r37, r38, r39, r40, r41, r42, r43, r44, r45⟩, ⟨r46, r47, r48⟩, ⟨r49, r50, r51, r52, r53, r54, r55⟩, ⟨r56, r57, r58, r59, r60, r61, r62, r63, r64, r65⟩, ⟨r66, r67, r68, r69, r70, r71, r72, r73, r74, r75⟩, ⟨r76, r77, r78, r79, r80, r81, r82, r83⟩, ⟨r84, r85, r86, r87, r88, r89⟩, ⟨r90, r91, r92, r93, r94, r95, r96, r97, r98⟩, ⟨r99, r100, r101, r102, r103, r104, r105, r106⟩, ⟨r107, r108, r109, r110, r111, r112, r113⟩, ⟨r114, r115, r116, r117, r118, r119, r120, r121, r122, r123⟩⟩ := id hR
    exact r26.symm
  have tr := TX_r (R_TX hR) (show k < 12 by omega)
  refine z189 (an_i (by omega) (by omega) ?_)
  rw [a.1 95 (by decide), a.1 104 (by decide), e95]
  simp only [Int.toNat_natCast]
  refine br_i (fun q => H0 (fun x => by have := x.1; omega)) (fun q => an_i (by omega) (by omega) (br_i (fun q2 => H0 (fun x => by have := x.2; omega)) (fun q2 => H1 ⟨by omega, by omega⟩)))
def goodJ (h : HP) (s j : Nat) : Prop := ((j : Int) < h 26 2 ∧ rul h j) ∨ (s.testBit j = true ↔ ((j : Int) < h 26 2 ∧ isOn (h 29 j)))
theorem bit_1k : ∀ b : Nat, b < 16 → ∀ k : Nat, k < 4 → (bAnd (bShr (b : Int) (k : Int)) 1 = 1 ↔ b.testBit k = true) := by decide +kernel
set_option maxHeartbeats 4000000 in
theorem m_isRest {hr : Int} {s : Nat} (hR : R h) (b0 : 0 ≤ hr) (b1 : hr < 12) (s16 : s < 16) (H0 : ¬ (∀ j, j < 4 → goodJ h s j) → ∀ g, SCR h g → Q (I 0) g) (H1 : (∀ j, j < 4 → goodJ h s j) → ∀ g y, SCR h g → y = b2i (okB h hr.toNat s) → Q (I y) g) : X (d + 22) 190 0 [some (P 69), some (I hr), some (I (s : Int)), none, none, none, none] [] h Q := by
  obtain ⟨⟨cn1, -, -, -, cn5⟩, n8, -, -, -, t4⟩ := R_cnt hR
  have e82 : h 82 = h 34 := by
    obtain ⟨⟨r1, r2, r3, r4, r5, r6, r7, r8⟩, ⟨r9, r10, r11, r12, r13⟩, ⟨r14, r15, r16, r17, r18, r19, r20⟩, ⟨r21, r22, r23, r24, r25, r26⟩, ⟨r27, r28, r29, r30, r31⟩, ⟨r32, r33⟩, ⟨r34, r35, r36, r37, r38, r39, r40, r41, r42, r43, r44, r45⟩, ⟨r46, r47, r48⟩, ⟨r49, r50, r51, r52, r53, r54, r55⟩, ⟨r56, r57, r58, r59, r60, r61, r62, r63, r64, r65⟩, ⟨r66, r67, r68, r69, r70, r71, r72, r73, r74, r75⟩, ⟨r76, r77, r78, r79, r80, r81, r82, r83⟩, ⟨r84, r85, r86, r87, r88, r89⟩, ⟨r90, r91, r92, r93, r94, r95, r96, r97, r98⟩, ⟨r99, r100, r101, r102, r103, r104, r105, r106⟩, ⟨r107, r108, r109, r110, r111, r112, r113⟩, ⟨r114, r115, r116, r117, r118, r119, r120, r121, r122, r123⟩⟩ := id hR
    exact r12.symm
  -- texts against the set
  have L2 : ∀ c i : Nat, i + c = (h 26 2).toNat → ∀ (g : HP) (v3 v4' : Int), SCR h g → envM g = ENV h hr.toNat s → ((v3 = 1 ∧ ∀ k, k < i → rul h k → (TEL h k (ENV h hr.toNat s) < 0 ∨ TEL h k (ENV h hr.toNat s) = bitF s k)) ∨ (v3 = 0 ∧ ¬ okT h hr.toNat s)) → (∀ g y, SCR h g → y = b2i (okB h hr.toNat s) → Q (I y) g) → X (d + 22) 190 145 [some (P 69), some (I hr), some (I (s : Int)), some (I v3), some (I (i : Int)), none, none] [] g Q := by
    intro c
    induction c with
    | zero =>
      intro i hi g v3 v4' sg eE hv HQ
      refine b190_145 (br_i (fun _ => ?_) (fun q => absurd (by rw [t_scr hR sg]; omega) q))
      rcases hv with ⟨e, hk⟩ | ⟨e, hk⟩
      · subst e
        refine ⟨Or.inr rfl, HQ g _ sg ?_⟩
        rw [okB_t (fun k hk1 hk2 => hk k (by omega) hk2)]; rfl
      · subst e
        refine ⟨Or.inl rfl, HQ g _ sg ?_⟩
        rw [okB_f hk]; rfl
    | succ c ih =>
      intro i hi g v3 v4' sg eE hv HQ
      have i4 : i < 4 := by omega
      have B := (bit_k16 s s16 i i4).1
      have G : ∀ (v : Int) (k : HP), SCR h k → envM k = ENV h hr.toNat s → ((rul h i ∧ v = tq (TEL h i (ENV h hr.toNat s))) ∨ (¬ rul h i ∧ v = -9)) → X (d + 22) 190 174 [some (P 69), some (I hr), some (I (s : Int)), some (I v3), some (I (i : Int)), none, none] [I v] k Q := by
        intro v k sk ek hv2
        refine b190_174 ?_
        rw [B]
        have NX : ∀ (v5 s0 : Int), ((s0 = 1 ∧ ∀ k, k < i + 1 → rul h k → (TEL h k (ENV h hr.toNat s) < 0 ∨ TEL h k (ENV h hr.toNat s) = bitF s k)) ∨ (s0 = 0 ∧ ¬ okT h hr.toNat s)) → X (d + 22) 190 201 [some (P 69), some (I hr), some (I (s : Int)), some (I v3), some (I (i : Int)), some (I v5), none] [I s0] k Q := by
          intro v5 s0 hs0
          refine b190_201 ?_
          rw [w32_n (by omega)]
          exact ih (i + 1) (by omega) k s0 v4' sk ek hs0 HQ
        rcases hv with ⟨e, hk⟩ | ⟨e, hk⟩
        · subst e
          have ext : (rul h i → (TEL h i (ENV h hr.toNat s) < 0 ∨ TEL h i (ENV h hr.toNat s) = bitF s i)) → ∀ k, k < i + 1 → rul h k → (TEL h k (ENV h hr.toNat s) < 0 ∨ TEL h k (ENV h hr.toNat s) = bitF s k) := fun hh k hk1 hk2 => by
            by_cases ek : k = i
            · subst ek; exact hh hk2
            · exact hk k (by omega) hk2
          refine br_i (fun x => absurd x (by decide)) (fun _ => ?_)
          rcases hv2 with ⟨ru, ev⟩ | ⟨ru, ev⟩
          · have TR := TEL_r (R_TX hR) (show i < 12 by omega) ((TX_r (R_TX hR) (show i < 12 by omega)).mp ru.2) (ENV h hr.toNat s)
            have tn := tq_n (t := TEL h i (ENV h hr.toNat s)) (by rcases TR with x | x <;> omega)
            rw [ev]
            refine br_i (fun q => b190_196 (NX _ 1 (Or.inl ⟨rfl, ext (fun _ => Or.inl (tn.1.mp q))⟩))) (fun q => ?_)
            have nt : ¬ TEL h i (ENV h hr.toNat s) < 0 := fun x => q (tn.1.mpr x)
            rw [tn.2 nt]
            refine br_i (fun q2 => b190_200 (NX _ 0 (Or.inr ⟨rfl, fun x => ?_⟩))) (fun q2 => b190_196 (NX _ 1 (Or.inl ⟨rfl, ext (fun _ => Or.inr (Classical.not_not.mp q2))⟩)))
            rcases x i (by omega) ru with y | y
            · exact nt y
            · exact q2 y
          · rw [ev]
            exact br_i (fun q => b190_196 (NX _ 1 (Or.inl ⟨rfl, ext (fun x => absurd x ru)⟩))) (fun q => absurd (by decide) q)
        · subst e
          exact br_i (fun _ => b190_200 (NX _ 0 (Or.inr ⟨rfl, hk⟩))) (fun x => absurd rfl x)
      refine b190_145 (br_i (fun q => absurd q (by rw [t_scr hR sg]; omega)) (fun _ => m_ruled hR sg i4 (fun ru => b190_160 (br_i (fun x => absurd x (by decide)) (fun _ => ?_))) (fun ru => b190_160 (br_i (fun _ => G _ g sg eE (Or.inr ⟨ru, rfl⟩)) (fun x => absurd rfl x)))))
      have eT : TEL g i (ENV h hr.toNat s) = TEL h i (ENV h hr.toNat s) := by unfold TEL; rw [sg.1 103 (by decide), sg.1 104 (by decide)]
      refine m_tl (d := d + 1) (R_TX (R_scr sg hR)) (by omega) (by rw [n_scr hR sg]; exact n8) (by rw [sg.1 104 (by decide)]; exact (TX_r (R_TX hR) (show i < 12 by omega)).mp ru.2) (fun k ok => b190_169 ?_)
      rw [eE, eT]
      refine G _ k (SCR_rd sg ok) ?_ (Or.inl ⟨ru, rfl⟩)
      rw [← eE]
      unfold envM
      rw [ok.2 55 (by decide) (by decide) (by decide), ok.2 56 (by decide) (by decide) (by decide), ok.2 9 (by decide) (by decide) (by decide), ok.1 105 (by decide)]
  -- heaters as the set has them
  have L1 : ∀ c i : Nat, i + c = 4 → ∀ (g : HP) (v3 : Int) (bn : Nat → Int), SCR h g → SCM g (h 34 hr.toNat) (h 30 5) 100 100 (h 25) bn (h 21) (h 9) (h 23) (h 15) → (∀ k, k < i → bn k = bitF s k) → (∀ k, i ≤ k → bn k = hnF h k) → ((v3 = 1 ∧ ∀ j, j < i → goodJ h s j) ∨ (v3 = 0 ∧ ¬ ∀ j, j < 4 → goodJ h s j)) → X (d + 22) 190 10 [some (P 69), some (I hr), some (I (s : Int)), some (I v3), some (I (i : Int)), none, none] [] g Q := by
    intro c
    induction c with
    | zero =>
      intro i hi g v3 bn sg S hb1 hb2 hv
      have ei : i = 4 := by omega
      subst ei
      refine b190_10 (br_i (fun _ => br_i (fun q => ?_) (fun q => ?_)) (fun q => absurd (by decide) q))
      · have hg : ∀ j, j < 4 → goodJ h s j := by
          rcases hv with ⟨e, hk⟩ | ⟨e, hk⟩
          · exact hk
          · exact absurd e q
        have v31 : v3 = 1 := by
          rcases hv with ⟨e, hk⟩ | ⟨e, hk⟩
          · exact e
          · exact absurd e q
        subst v31
        refine m_sc (R_scr sg hR) sg S (fun k ok hk => b190_127 (an_i b0 b1 ?_))
        have sk : SCR h k := SCR_105 sg ok
        rw [sg.1 2 (by decide)] at hk
        have eRB : RV h (h 34 hr.toNat) (h 30 5) 100 100 (h 25) bn (h 21) (h 9) (h 23) (h 15) z0F = RBN h hr.toNat (bitF s) := RV_c (SCT_of (SCR_r h)) (fun _ _ => ⟨Iff.rfl, rfl⟩) (fun k hk => by rw [hb1 k (by omega)]) (fun _ _ => Iff.rfl) (fun _ _ => ⟨rfl, rfl⟩) (fun _ _ => rfl)
        rw [eRB] at hk
        refine L2 (h 26 2).toNat 0 (by omega) _ 1 0 (SCR_m (SCR_m sk rfl) rfl) ?_ (Or.inl ⟨rfl, fun k hk => absurd hk (by omega)⟩) (H1 hg)
        funext w
        unfold envM ENV
        rw [up_i (j := 55) (by decide), up_s, up_s, up_i (j := 9) (by decide), up_i (j := 9) (by decide), up_p (q := 105) (by decide), up_p (q := 105) (by decide), n_scr hR sk, sk.1 82 (by decide), e82]
        by_cases c1 : w = 10
        · rw [if_pos c1, if_pos c1]
        · rw [if_neg c1, if_neg c1]
          by_cases c2 : w = 11
          · rw [if_pos c2, if_pos c2]; omega
          · rw [if_neg c2, if_neg c2]
            by_cases c3 : (w : Int) < h 2 0
            · rw [if_pos c3, if_pos c3, (hk w c3).1]
            · rw [if_neg c3, if_neg c3]
      · refine H0 ?_ g sg
        rcases hv with ⟨e, hk⟩ | ⟨e, hk⟩
        · exact absurd (by rw [e]; decide) q
        · exact hk
    | succ c ih =>
      intro i hi g v3 bn sg S hb1 hb2 hv
      have i4 : i < 4 := by omega
      have B := bit_1k s s16 i i4
      -- the flag behind it
      have N101 : ∀ (v5 v6 s0 : Int), v5 = bitF s i → ((s0 = 1 ∧ v3 = 1 ∧ goodJ h s i) ∨ (s0 = 0 ∧ (v3 = 0 ∨ ¬ goodJ h s i))) → X (d + 22) 190 101 [some (P 69), some (I hr), some (I (s : Int)), some (I v3), some (I (i : Int)), some (I v5), some (I v6)] [I s0] g Q := by
        intro v5 v6 s0 e5 hs0
        subst e5
        refine b190_101 (an_i (by omega) (by omega) ⟨by unfold bitF; split <;> simp, ?_⟩)
        rw [w32_n (by omega)]
        simp only [Int.toNat_natCast]
        refine ih (i + 1) (by omega) _ s0 (st1 bn i (bitF s i)) (SCR_u sg (by decide)) (SCM_bn S) (fun k hk => ?_) (fun k hk => ?_) ?_
        · by_cases e : k = i
          · subst e; exact st1_s
          · rw [st1_n e]; exact hb1 k (by omega)
        · rw [st1_n (by omega)]; exact hb2 k (by omega)
        · rcases hs0 with ⟨e0, e3, hg⟩ | ⟨e0, hg⟩
          · refine Or.inl ⟨e0, fun j hj => ?_⟩
            by_cases ej : j = i
            · subst ej; exact hg
            · rcases hv with ⟨-, hk⟩ | ⟨x, -⟩
              · exact hk j (by omega)
              · omega
          · refine Or.inr ⟨e0, fun x => ?_⟩
            rcases hg with y | y
            · rcases hv with ⟨z, -⟩ | ⟨-, z⟩
              · omega
              · exact z x
            · exact y (x i i4)
      have N96 : ∀ (v5 v6 : Int), v5 = bitF s i → v3 = 1 → goodJ h s i → X (d + 22) 190 96 [some (P 69), some (I hr), some (I (s : Int)), some (I v3), some (I (i : Int)), some (I v5), some (I v6)] [] g Q := fun v5 v6 e5 e3 hg => b190_96 (N101 _ _ 1 e5 (Or.inl ⟨rfl, e3, hg⟩))
      have N100 : ∀ (v5 v6 : Int), v5 = bitF s i → (v3 = 0 ∨ ¬ goodJ h s i) → X (d + 22) 190 100 [some (P 69), some (I hr), some (I (s : Int)), some (I v3), some (I (i : Int)), some (I v5), some (I v6)] [] g Q := fun v5 v6 e5 hg => b190_100 (N101 _ _ 0 e5 (Or.inr ⟨rfl, hg⟩))
      have v3c : v3 = 0 ∨ v3 = 1 := by
        rcases hv with ⟨e, -⟩ | ⟨e, -⟩
        · exact Or.inr e
        · exact Or.inl e
      have bF : bitF s i = 1 ↔ s.testBit i = true := by unfold bitF; cases s.testBit i <;> simp
      have bF2 : bitF s i = 0 ∨ bitF s i = 1 := by unfold bitF; cases s.testBit i <;> simp
      -- is it now as the set has it
      have N56 : ∀ s0, (s0 = 1 ∧ ((i : Int) < h 26 2 ∧ rul h i)) ∨ (s0 = 0 ∧ ¬ ((i : Int) < h 26 2 ∧ rul h i)) → X (d + 22) 190 56 [some (P 69), some (I hr), some (I (s : Int)), some (I v3), some (I (i : Int)), some (I (bitF s i)), none] [I s0] g Q := by
        intro s0 hs0
        refine b190_56 (br_i (fun q => N100 _ _ rfl (Or.inl q)) (fun q => ?_))
        have e3 : v3 = 1 := by omega
        rcases hs0 with ⟨e0, ru⟩ | ⟨e0, ru⟩
        · subst e0
          exact br_i (fun _ => N96 _ _ rfl e3 (Or.inl ru)) (fun x => absurd (by decide) x)
        · subst e0
          refine br_i (fun x => absurd rfl x) (fun _ => ?_)
          rw [t_scr hR sg]
          have W : ∀ s1, (s1 = 0 ∨ s1 = 1) → (s1 = 1 ↔ ((i : Int) < h 26 2 ∧ isOn (h 29 i))) → X (d + 22) 190 93 [some (P 69), some (I hr), some (I (s : Int)), some (I v3), some (I (i : Int)), some (I (bitF s i)), some (I 0)] [I s1, I (bitF s i)] g Q := by
            intro s1 h01 hs1
            have eqv : goodJ h s i ↔ bitF s i = s1 := by
              unfold goodJ
              constructor
              · intro x
                rcases x with x | x
                · exact absurd x ru
                · rw [← bF, ← hs1] at x; omega
              · intro x
                refine Or.inr ?_
                rw [← bF, ← hs1]; omega
            exact b190_93 (br_i (fun q5 => N100 _ _ rfl (Or.inr (fun x => q5 (eqv.mp x)))) (fun q5 => N96 _ _ rfl e3 (eqv.mpr (Classical.not_not.mp q5))))
          refine br_i (fun q2 => b190_92 (W 0 (Or.inl rfl) ⟨fun x => absurd x (by decide), fun x => absurd x.1 (by omega)⟩)) (fun q2 => an_i (by omega) (by omega) ?_)
          have e110 : (g 110 i = 0 ↔ hnF h i = 0) := by
            have := S.2.2.1 i (by rw [sg.1 26 (by decide)]; omega)
            rw [hb2 i (Nat.le_refl _)] at this
            exact this
          have hnE : hnF h i = 0 ↔ ¬ isOn (h 29 i) := by
            unfold hnF isOn
            by_cases c : h 29 i = 1 ∨ h 29 i = 3
            · rw [if_pos c]; simp [c]
            · rw [if_neg c]; simp [c]
          simp only [Int.toNat_natCast]
          refine br_i (fun q3 => b190_92 (W 0 (Or.inl rfl) ⟨fun x => absurd x (by decide), fun x => absurd x.2 (hnE.mp (e110.mp q3))⟩)) (fun q3 => W 1 (Or.inr rfl) ⟨fun _ => ⟨by omega, ?_⟩, fun _ => rfl⟩)
          exact Classical.not_not.mp (fun x => q3 (e110.mpr (hnE.mpr x)))
      have N31 : X (d + 22) 190 31 [some (P 69), some (I hr), some (I (s : Int)), some (I v3), some (I (i : Int)), none, none] [I (bitF s i)] g Q := by
        refine b190_31 ?_
        rw [t_scr hR sg]
        refine br_i (fun q => b190_55 (N56 0 (Or.inr ⟨rfl, fun x => by omega⟩))) (fun q => m_ruled hR sg i4 (fun ru => b190_48 (br_i (fun x => absurd x (by decide)) (fun _ => N56 1 (Or.inl ⟨rfl, by omega, ru⟩)))) (fun ru => b190_48 (br_i (fun _ => b190_55 (N56 0 (Or.inr ⟨rfl, fun x => ru x.2⟩))) (fun x => absurd rfl x))))
      refine b190_10 (br_i (fun q => absurd q (by omega)) (fun _ => br_i (fun q => ?_) (fun q => ?_)))
      · have : bitF s i = 0 := by
          rcases bF2 with x | x
          · exact x
          · exact absurd (B.mpr (bF.mp x)) q
        rw [this] at N31; exact N31
      · have : bitF s i = 1 := bF.mpr (B.mp (Classical.not_not.mp q))
        rw [this] at N31; exact N31
  refine b190_0 (m_lay hR b0 b1 (fun g hL => b190_5 ?_))
  exact L1 4 0 rfl g 1 (hnF h) (LAY_r hL) (LAY_s hR hL) (fun k hk => absurd hk (by omega)) (fun _ _ => rfl) (Or.inl ⟨rfl, fun j hj => absurd hj (by omega)⟩)
theorem good_v {fr ot s : Nat} (t4 : h 26 2 ≤ 4) (f16 : fr < 16) (o16 : ot < 16) (s16 : s < 16) (hfr : ∀ k, fr.testBit k = true ↔ ((k : Int) < h 26 2 ∧ rul h k)) (hot : othN h fr ot) : (∀ j, j < 4 → goodJ h s j) ↔ bNotIn fr s = ot := by
  have key : ∀ j, goodJ h s j ↔ (bNotIn fr s).testBit j = ot.testBit j := by
    intro j
    unfold bNotIn goodJ
    rw [Nat.testBit_xor, Nat.testBit_and]
    by_cases cA : (j : Int) < h 26 2 ∧ rul h j
    · have e1 : fr.testBit j = true := (hfr j).mpr cA
      have e2 : ot.testBit j = false := by
        cases q : ot.testBit j
        · rfl
        · exact absurd cA.2 ((hot j).mp q).2.2
      rw [e1, e2]
      refine ⟨fun _ => ?_, fun _ => Or.inl cA⟩
      cases s.testBit j <;> rfl
    · have e1 : fr.testBit j = false := by
        cases q : fr.testBit j
        · rfl
        · exact absurd ((hfr j).mp q) cA
      have e2 : ((j : Int) < h 26 2 ∧ isOn (h 29 j)) ↔ ot.testBit j = true := ⟨fun x => (hot j).mpr ⟨x.1, x.2, fun y => cA ⟨x.1, y⟩⟩, fun x => ⟨((hot j).mp x).1, ((hot j).mp x).2.1⟩⟩
      rw [e1, e2]
      cases s.testBit j <;> cases ot.testBit j <;> simp [cA]
  constructor
  · intro H
    refine Nat.eq_of_testBit_eq (fun j => ?_)
    by_cases c : j < 4
    · exact (key j).mp (H j c)
    · have b16 := (bit_n16 s s16 fr f16).2.2.2
      rw [Nat.testBit_lt_two_pow (Nat.lt_of_lt_of_le b16 (show 16 ≤ 2 ^ j from Nat.le_trans (by decide) (Nat.pow_le_pow_right (by decide) (show 4 ≤ j by omega)))), Nat.testBit_lt_two_pow (Nat.lt_of_lt_of_le o16 (show 16 ≤ 2 ^ j from Nat.le_trans (by decide) (Nat.pow_le_pow_right (by decide) (show 4 ≤ j by omega))))]
  · intro H j _
    exact (key j).mpr (by rw [H])
set_option maxHeartbeats 4000000 in
theorem m_rests {fr ot : Nat} (H1 : (0 ≤ v1 ∧ v1 < 12) → -1 ≤ v2 → R h ∧ fr < 16 ∧ ot < 16 ∧ (∀ k, fr.testBit k = true ↔ ((k : Int) < h 26 2 ∧ rul h k)) ∧ othN h fr ot ∧ ∀ g y, SCR h g → y = selF (okB h v1.toNat) v2 (mdlL fr ot (List.range 16)) 0 → Q (I y) g) (H2 : (0 ≤ v1 ∧ v1 < 12) → ¬ -1 ≤ v2 → Q (I (-4)) (rfM h (-4))) (H3 : ¬ (0 ≤ v1 ∧ v1 < 12) → Q (I (-1)) (rfM h (-1))) : X (d + 23) 191 0 [some (P 69), some (I v1), some (I v2), none, none] [] h Q := by
  by_cases hv : 0 ≤ v1 ∧ v1 < 12
  · by_cases hw : -1 ≤ v2
    · obtain ⟨hR, f16, o16, hfr, hot, HN⟩ := H1 hv hw
      obtain ⟨a0, a1⟩ := hv
      clear H1 H2 H3
      have t4 := (R_cnt hR).2.2.2.2.2
      have L : ∀ c s : Nat, s + c = 16 → ∀ (g : HP) (f : Int), 0 ≤ f → f ≤ s → SCR h g → (∀ g y, SCR h g → y = selF (okB h v1.toNat) v2 (mdlL fr ot (List.range' s c)) f → Q (I y) g) → X (d + 23) 191 30 [some (P 69), some (I v1), some (I v2), some (I f), some (I (s : Int))] [] g Q := by
        intro c
        induction c with
        | zero =>
          intro s hs g f f0 f1 sg HQ
          refine b191_30 (br_i (fun _ => br_i (fun q => HQ g _ sg ?_) (fun q => HQ g _ sg ?_)) (fun q => absurd (by omega) q))
          · show _ = (if 0 ≤ v2 then (-9 : Int) else f)
            rw [if_pos q]
          · show _ = (if 0 ≤ v2 then (-9 : Int) else f)
            rw [if_neg q]
        | succ c ih =>
          intro s hs g f f0 f1 sg HQ
          have hRg := R_scr sg hR
          have eg : (∀ j, j < 4 → goodJ g s j) ↔ bNotIn fr s = ot := by
            refine good_v (by rw [sg.1 26 (by decide)]; exact t4.2) f16 o16 (by omega) ?_ ?_
            · intro k; unfold rul; rw [sg.1 26 (by decide), sg.1 29 (by decide), sg.1 40 (by decide)]; exact hfr k
            · intro k; unfold rul; rw [sg.1 26 (by decide), sg.1 29 (by decide), sg.1 40 (by decide)]; exact hot k
          have eo : okB g v1.toNat s = okB h v1.toNat s := by
            have : okT g v1.toNat s = okT h v1.toNat s := by
              unfold okT rul TEL ENV
              rw [RBN_s sg, sg.1 26 (by decide), sg.1 29 (by decide), sg.1 40 (by decide), sg.1 103 (by decide), sg.1 104 (by decide), sg.1 34 (by decide), sg.1 2 (by decide)]
            unfold okB
            rw [this]
          have eR : List.range' s (c + 1) = s :: List.range' (s + 1) c := rfl
          have NO : ∀ k, SCR h k → (∀ g y, SCR h g → y = selF (okB h v1.toNat) v2 (mdlL fr ot (List.range' (s + 1) c)) f → Q (I y) g) → X (d + 23) 191 44 [some (P 69), some (I v1), some (I v2), some (I f), some (I (s : Int))] [I 0] k Q := by
            intro k sk HQ'
            refine b191_44 (br_i (fun _ => b191_58 ?_) (fun x => absurd rfl x))
            rw [w32_n (by omega)]
            exact ih (s + 1) (by omega) k f f0 (by omega) sk HQ'
          refine b191_30 (br_i (fun q => absurd q (by omega)) (fun _ => m_isRest hRg a0 a1 (by omega) (fun hn k sk => ?_) (fun hg k y sk ey => ?_)))
          · have hne : ¬ bNotIn fr s = ot := fun x => hn (eg.mpr x)
            refine NO k (SCR_t sg sk) (fun g y s' ey => HQ g y s' ?_)
            rw [ey, eR]
            unfold mdlL
            rw [List.filter_cons_of_neg (by simpa using hne)]
          · have he : bNotIn fr s = ot := eg.mp hg
            have eL : mdlL fr ot (List.range' s (c + 1)) = s :: mdlL fr ot (List.range' (s + 1) c) := by
              rw [eR]; unfold mdlL
              rw [List.filter_cons_of_pos (by simpa using he)]
            rw [eo] at ey
            subst ey
            cases qo : okB h v1.toNat s
            · refine NO k (SCR_t sg sk) (fun g y s' ey => HQ g y s' ?_)
              rw [ey, eL]
              show _ = (if okB h v1.toNat s = true then _ else _)
              rw [if_neg (by rw [qo]; decide)]
            · refine b191_44 (br_i (fun x => absurd x (by decide)) (fun _ => br_i (fun q5 => b191_58 ?_) (fun q5 => HQ k _ (SCR_t sg sk) ?_)))
              · rw [w32_n (by omega), w32_of (x := f + 1) (by omega) (by omega)]
                refine ih (s + 1) (by omega) k (f + 1) (by omega) (by omega) (SCR_t sg sk) (fun g y s' ey => HQ g y s' ?_)
                rw [ey, eL]
                show _ = (if okB h v1.toNat s = true then _ else _)
                rw [if_pos qo, if_neg q5]
              · rw [eL]
                show _ = (if okB h v1.toNat s = true then _ else _)
                rw [if_pos qo, if_pos (Classical.not_not.mp q5)]
      repeat' (first | (exfalso; omega) | (apply br_i <;> intro _) | apply b191_0 | apply z137 | apply b191_4 | apply an_i | decide | omega)
      refine L 16 0 rfl h 0 (by decide) (by decide) (SCR_r h) (fun g y s ey => HN g y s ?_)
      rw [ey, List.range_eq_range']
    · have HN := H2 hv hw
      obtain ⟨a0, a1⟩ := hv
      clear H1 H2 H3
      repeat' (first | exact HN | (exfalso; omega) | (apply br_i <;> intro _) | apply b191_0 | apply z137 | apply b191_4 | apply z135 | apply b191_24 | apply an_i | decide | omega)
  · have HN := H3 hv
    clear H1 H2 H3
    repeat' (first | exact HN | (exfalso; omega) | (apply br_i <;> intro _) | apply b191_0 | apply z137 | apply b191_4 | apply z135 | apply b191_12 | apply an_i | decide | omega)
theorem p_rests (hR : R h) : X (d + 23) 101 0 [some (P 0), some (I v1), some (I v2), none, none, none, none] [] h (fun r h1 => X (d + 23) 191 0 [some (P 69), some (I v1), some (I v2), none, none] [] h1 (fun r' h2 => EQA r r' h2)) := by
  refine c_rests (d := d + 13) hR (fun hv hw g y fr ot sg f16 o16 hfr hot ey => m_rests (fr := fr) (ot := ot) (fun _ _ => ⟨R_scr sg hR, f16, o16, ?_, ?_, fun g2 y2 s2 ey2 => ⟨?_, R_scr s2 (R_scr sg hR)⟩⟩) (fun _ hn => absurd hw hn) (fun hn => absurd hv hn)) (fun hv hn => m_rests (fr := 0) (ot := 0) (fun _ hw => absurd hw hn) (fun _ _ => EQA_rf hR) (fun hn => absurd hv hn)) (fun hn => m_rests (fr := 0) (ot := 0) (fun hv => absurd hv hn) (fun hv => absurd hv hn) (fun _ => EQA_rf hR))
  · intro k; unfold rul; rw [sg.1 26 (by decide), sg.1 29 (by decide), sg.1 40 (by decide)]; exact hfr k
  · intro k; unfold rul; rw [sg.1 26 (by decide), sg.1 29 (by decide), sg.1 40 (by decide)]; exact hot k
  · have eo : okB g v1.toNat = okB h v1.toNat := by
      funext s
      have : okT g v1.toNat s = okT h v1.toNat s := by
        unfold okT rul TEL ENV
        rw [RBN_s sg, sg.1 26 (by decide), sg.1 29 (by decide), sg.1 40 (by decide), sg.1 103 (by decide), sg.1 104 (by decide), sg.1 34 (by decide), sg.1 2 (by decide)]
      unfold okB
      rw [this]
    have dis : fr &&& ot = 0 := by
      refine Nat.eq_of_testBit_eq (fun k => ?_)
      rw [Nat.testBit_and, Nat.zero_testBit]
      cases q : fr.testBit k
      · rfl
      · cases q2 : ot.testBit k
        · rfl
        · exact absurd ((hfr k).mp q).2 ((hot k).mp q2).2.2
    rw [ey, ey2, eo, cls_mdl fr f16 ot o16 dis]
end P61
