/-! pair: rests -/
def bitF (s : Nat) : Nat → Int := fun k => if s.testBit k = true then 1 else 0
noncomputable def ENV (h : HP) (hr s : Nat) : Nat → Int := fun w => if w = 10 then h 34 hr else if w = 11 then (hr : Int) else if (w : Int) < h 2 0 then RBN h hr (bitF s) w else 0
def rul (h : HP) (k : Nat) : Prop := h 29 k ≤ 1 ∧ 0 < h 40 k
def okT (h : HP) (hr s : Nat) : Prop := ∀ k : Nat, (k : Int) < h 26 2 → rul h k → (TEL h k (ENV h hr s) < 0 ∨ TEL h k (ENV h hr s) = bitF s k)
noncomputable def okB (h : HP) (hr s : Nat) : Bool := @decide (okT h hr s) (Classical.propDecidable _)
theorem okB_t {h : HP} {hr s : Nat} (H : okT h hr s) : okB h hr s = true := @decide_eq_true _ (Classical.propDecidable _) H
theorem okB_f {h : HP} {hr s : Nat} (H : ¬ okT h hr s) : okB h hr s = false := @decide_eq_false _ (Classical.propDecidable _) H
/-- the i-th that is right, or how many -/
def selF (T : Nat → Bool) (i : Int) : List Nat → Int → Int
  | [], n => if 0 ≤ i then -9 else n
  | s :: L, n => if T s = true then (if n = i then (s : Int) else selF T i L (n + 1)) else selF T i L n
def bNotIn (free b : Nat) : Nat := b ^^^ (b &&& free)
def clsL (free oth : Nat) (L : List Nat) : List Nat := (L.filter (fun b => bNotIn free b == 0)).map (fun b => oth ||| b)
def mdlL (free oth : Nat) (L : List Nat) : List Nat := L.filter (fun s => bNotIn free s == oth)
theorem cls_mdl : ∀ free, free < 16 → ∀ oth, oth < 16 → free &&& oth = 0 → clsL free oth (List.range 16) = mdlL free oth (List.range 16) := by decide +kernel
section P60
variable {d : Nat} {h : HP} {Q : PV → HP → Prop} {v1 v2 v3 v4 n m : Int}
theorem R_TX (hR : R h) : TX h := by
  obtain ⟨⟨r1, r2, r3, r4, r5, r6, r7, r8⟩, ⟨r9, r10, r11, r12, r13⟩, ⟨r14, r15, r16, r17, r18, r19, r20⟩, ⟨r21, r22, r23, r24, r25, r26⟩, ⟨r27, r28, r29, r30, r31⟩, ⟨r32, r33⟩, ⟨r34, r35, r36, r37, r38, r39, r40, r41, r42, r43, r44, r45⟩, ⟨r46, r47, r48⟩, ⟨r49, r50, r51, r52, r53, r54, r55⟩, ⟨r56, r57, r58, r59, r60, r61, r62, r63, r64, r65⟩, ⟨r66, r67, r68, r69, r70, r71, r72, r73, r74, r75⟩, ⟨r76, r77, r78, r79, r80, r81, r82, r83⟩, ⟨r84, r85, r86, r87, r88, r89⟩, ⟨r90, r91, r92, r93, r94, r95, r96, r97, r98⟩, ⟨r99, r100, r101, r102, r103, r104, r105, r106⟩, ⟨r107, r108, r109, r110, r111, r112, r113⟩, ⟨r114, r115, r116, r117, r118, r119, r120, r121, r122, r123⟩⟩ := id hR
  exact r120
set_option maxHeartbeats 4000000 in
theorem c_free (hR : R h) (H : ∀ x, bts x (h 26 2) (rul h) → Q (I x) h) : X (d + 1) 129 0 [some (P 0), none, none] [] h Q := by
  have t4 := (R_cnt hR).2.2.2.2.2
  have L : ∀ k i : Nat, i + k = (h 26 2).toNat → ∀ x, bts x i (rul h) → X (d + 1) 129 4 [some (P 0), some (I x), some (I i)] [] h Q := by
    intro k
    induction k with
    | zero =>
      intro i hi x hx
      refine b129_4 (br_i (fun _ => H x ?_) (fun q => absurd (by omega) q))
      have : (i : Int) = h 26 2 := by omega
      rw [← this]; exact hx
    | succ k ih =>
      intro i hi x hx
      have N : ∀ u, bts u ((i : Int) + 1) (rul h) → X (d + 1) 129 51 [some (P 0), some (I u), some (I i)] [] h Q := by
        intro u hu
        refine b129_51 ?_
        rw [w32_n (by omega)]
        exact ih (i + 1) (by omega) u hu
      refine b129_4 (br_i (fun q => absurd q (by omega)) (fun _ => an_i (by omega) (by omega) (br_i (fun q => N x (bts_n (fun y => ?_) hx)) (fun q => z27 (an_i (by omega) (by omega) (br_i (fun q2 => b129_42 (br_i (fun _ => N x (bts_n (fun y => ?_) hx)) (fun x => absurd rfl x))) (fun q2 => b129_42 (br_i (fun x => absurd x (by decide)) (fun _ => N _ (bts_y (by omega) ⟨?_, ?_⟩ hx))))))))))
      · simp only [Int.toNat_natCast] at q; have := y.1; omega
      · simp only [Int.toNat_natCast] at q2; have := y.2; omega
      · simp only [Int.toNat_natCast] at q; omega
      · simp only [Int.toNat_natCast] at q2; omega
  exact b129_0 (L (h 26 2).toNat 0 (by omega) 0 bts_0)
theorem bts_16 {x n : Int} {f : Nat → Prop} (hn : n ≤ 4) (H : bts x n f) : ∃ y : Nat, x = y ∧ y < 16 ∧ ∀ k, y.testBit k = true ↔ ((k : Int) < n ∧ f k) := by
  obtain ⟨⟨x0, x1⟩, hb⟩ := H
  obtain ⟨y, rfl⟩ := Int.eq_ofNat_of_zero_le x0
  refine ⟨y, rfl, ?_, fun k => ?_⟩
  · have : y < 2 ^ 4 := Nat.lt_pow_two_of_testBit y (fun k hk => by
      cases q : y.testBit k
      · rfl
      · have := (hb k).mp q
        omega)
    omega
  · exact hb k
theorem bit_n16 : ∀ b : Nat, b < 16 → ∀ f : Nat, f < 16 → bAnd (b : Int) (bXor (f : Int) (-1)) = ((bNotIn f b : Nat) : Int) ∧ bOr (f : Int) (b : Int) = ((f ||| b : Nat) : Int) ∧ f ||| b < 16 ∧ bNotIn f b < 16 := by decide +kernel
theorem bit_k16 : ∀ b : Nat, b < 16 → ∀ k : Nat, k < 4 → bAnd (bShr (b : Int) (k : Int)) 1 = bitF b k ∧ (bAnd (bShr (b : Int) (k : Int)) 1 = 0 ↔ b.testBit k = false) := by decide +kernel

set_option maxHeartbeats 4000000 in
theorem c_alike {g : HP} {hr fr b s : Nat} (hR : R h) (a : SCR h g) (hr1 : hr < 12) (f16 : fr < 16) (b16 : b < 16) (hfr : ∀ k, fr.testBit k = true ↔ ((k : Int) < h 26 2 ∧ rul h k)) (hs : ∀ k, fr.testBit k = true → s.testBit k = b.testBit k) (hW : isW (g 48) (RBN h hr (bitF s)) (h 2 0)) (H : ∀ y, y = b2i (okB h hr s) → Q (I y) g) : X (d + 3) 130 0 [some (P 0), some (I (fr : Int)), some (I (b : Int)), some (I (hr : Int)), none, none] [] g Q := by
  obtain ⟨-, n8, -, -, -, t4⟩ := R_cnt hR
  have eE : envC g 48 hr = ENV h hr s := by
    funext w
    unfold envC ENV
    rw [a.1 34 (by decide), a.1 2 (by decide)]
    by_cases c1 : w = 10
    · rw [if_pos c1, if_pos c1]
    · rw [if_neg c1, if_neg c1]
      by_cases c2 : w = 11
      · rw [if_pos c2, if_pos c2]
      · rw [if_neg c2, if_neg c2]
        by_cases c3 : (w : Int) < h 2 0
        · rw [if_pos c3, if_pos c3, (hW w c3).1]
        · rw [if_neg c3, if_neg c3]
  have eT : ∀ k E, TEL g k E = TEL h k E := fun k E => by unfold TEL; rw [a.1 103 (by decide), a.1 104 (by decide)]
  have TXg := R_TX (R_scr a hR)
  have L : ∀ c i : Nat, i + c = (h 26 2).toNat → (∀ k : Nat, k < i → rul h k → (TEL h k (ENV h hr s) < 0 ∨ TEL h k (ENV h hr s) = bitF s k)) → X (d + 3) 130 3 [some (P 0), some (I (fr : Int)), some (I (b : Int)), some (I (hr : Int)), some (I (i : Int)), none] [] g Q := by
    intro c
    induction c with
    | zero =>
      intro i hi hk
      refine b130_3 (br_i (fun _ => H 1 ?_) (fun q => absurd (by rw [a.1 26 (by decide)]; omega) q))
      rw [okB_t (fun k hk1 hk2 => hk k (by omega) hk2)]; rfl
    | succ c ih =>
      intro i hi hk
      have i4 : i < 4 := by omega
      have NX : (rul h i → (TEL h i (ENV h hr s) < 0 ∨ TEL h i (ENV h hr s) = bitF s i)) → X (d + 3) 130 70 [some (P 0), some (I (fr : Int)), some (I (b : Int)), some (I (hr : Int)), some (I (i : Int)), none] [] g Q := by
        intro hh
        refine b130_70 ?_
        rw [w32_n (by omega)]
        refine ih (i + 1) (by omega) (fun k hk1 hk2 => ?_)
        by_cases e : k = i
        · subst e; exact hh hk2
        · exact hk k (by omega) hk2
      have B1 := bit_k16 fr f16 i i4
      have B2 := bit_k16 b b16 i i4
      refine b130_3 (br_i (fun q => absurd q (by rw [a.1 26 (by decide)]; omega)) (fun _ => br_i (fun q => ?_) (fun q => NX (fun hu => ?_))))
      · have tf : fr.testBit i = true := by
          cases x : fr.testBit i
          · exact absurd (B1.2.mpr x) q
          · rfl
        have ru := ((hfr i).mp tf).2
        have eb : bitF b i = bitF s i := by unfold bitF; rw [hs i tf]
        refine c_tlb TXg (by omega) hr1 (by rw [a.1 2 (by decide)]; omega) (by rw [a.1 40 (by decide)]; exact ru.2) (b130_50 ?_)
        rw [eT, eE, B2.1, eb]
        refine br_i (fun q2 => NX (fun _ => Or.inl q2)) (fun q2 => br_i (fun q3 => NX (fun _ => Or.inr q3)) (fun q3 => H 0 ?_))
        rw [okB_f (fun x => ?_)]
        · rfl
        · rcases x i (by omega) ru with y | y
          · exact q2 y
          · exact q3 y
      · have tf := (hfr i).mpr ⟨by omega, hu⟩
        exact absurd (by rw [B1.2, tf]; decide) q
  exact b130_0 (L (h 26 2).toNat 0 (by omega) (fun k hk => absurd hk (by omega)))
/-- what both sum up -/
def othN (h : HP) (fr on : Nat) : Prop := ∀ k, on.testBit k = true ↔ ((k : Int) < h 26 2 ∧ isOn (h 29 k) ∧ ¬ rul h k)
set_option maxHeartbeats 4000000 in
theorem c_rests (hR : R h) (H1 : (0 ≤ v1 ∧ v1 < 12) → -1 ≤ v2 → ∀ g y (fr ot : Nat), SCR h g → fr < 16 → ot < 16 → (∀ k, fr.testBit k = true ↔ ((k : Int) < h 26 2 ∧ rul h k)) → othN h fr ot → y = selF (okB h v1.toNat) v2 (clsL fr ot (List.range 16)) 0 → Q (I y) g) (H2 : (0 ≤ v1 ∧ v1 < 12) → ¬ -1 ≤ v2 → Q (I (-4)) (rfC h (-4))) (H3 : ¬ (0 ≤ v1 ∧ v1 < 12) → Q (I (-1)) (rfC h (-1))) : X (d + 10) 101 0 [some (P 0), some (I v1), some (I v2), none, none, none, none] [] h Q := by
  by_cases hv : 0 ≤ v1 ∧ v1 < 12
  · by_cases hw : -1 ≤ v2
    · have HN := H1 hv hw
      obtain ⟨a0, a1⟩ := hv
      clear H1 H2 H3
      have t4 := (R_cnt hR).2.2.2.2.2
      repeat' (first | (exfalso; omega) | (apply br_i <;> intro _) | apply b101_0 | apply z123 | apply b101_6 | apply an_i | decide | omega)
      refine c_free hR (fun x hx => b101_31 ?_)
      obtain ⟨fr, rfl, f16, hfr⟩ := bts_16 t4.2 hx
      refine c_asNow hR a0 a1 (fun g o hN => b101_40 ?_)
      have S := NOW_s hR o hN
      obtain ⟨on, eon, o16, hon⟩ := bts_16 (by rw [o 26 (by decide) (by decide) (by decide)]; exact t4.2) hN.2.1.2.1
      rw [eon, (bit_n16 on o16 fr f16).1]
      rw [o 26 (by decide) (by decide) (by decide), o 29 (by decide) (by decide) (by decide)] at hon
      have ot16 := (bit_n16 on o16 fr f16).2.2.2
      have hot : othN h fr (bNotIn fr on) := by
        intro k
        unfold bNotIn
        rw [Nat.testBit_xor, Nat.testBit_and]
        have h1 := hon k
        have h2 := hfr k
        cases q1 : on.testBit k <;> cases q2 : fr.testBit k <;> rw [q1] at h1 <;> rw [q2] at h2
        · constructor
          · intro x; cases x
          · intro x; exact absurd (h1.mpr ⟨x.1, x.2.1⟩) (by decide)
        · constructor
          · intro x; cases x
          · intro x; exact absurd (h1.mpr ⟨x.1, x.2.1⟩) (by decide)
        · constructor
          · intro _
            have h3 := h1.mp rfl
            exact ⟨h3.1, h3.2, fun y => absurd (h2.mpr ⟨h3.1, y⟩) (by decide)⟩
          · intro _; rfl
        · constructor
          · intro x; cases x
          · intro x; exact absurd (h2.mp rfl).2 x.2.2
      generalize bNotIn fr on = ot at *
      have dis : ∀ k, fr.testBit k = true → ot.testBit k = false := fun k hk => by
        cases q : ot.testBit k
        · rfl
        · exact absurd ((hfr k).mp hk).2 ((hot k).mp q).2.2
      have L : ∀ c b : Nat, b + c = 16 → ∀ (g : HP) (f : Int), 0 ≤ f → f ≤ b → SCR h g → (∃ bn, SCE g (h 34 v1.toNat) (h 30 5) 100 100 (h 25) bn (h 21) (h 9) (h 23) (h 15) z0F) → (∀ g y, SCR h g → y = selF (okB h v1.toNat) v2 (clsL fr ot (List.range' b c)) f → Q (I y) g) → X (d + 10) 101 59 [some (P 0), some (I v1), some (I v2), some (I (fr : Int)), some (I (ot : Int)), some (I f), some (I (b : Int))] [] g Q := by
        intro c
        induction c with
        | zero =>
          intro b hb g f f0 f1 sg hS HQ
          refine b101_59 (br_i (fun _ => br_i (fun q => HQ g _ sg ?_) (fun q => HQ g _ sg ?_)) (fun q => absurd (by omega) q))
          · show _ = (if 0 ≤ v2 then (-9 : Int) else f)
            rw [if_pos q]
          · show _ = (if 0 ≤ v2 then (-9 : Int) else f)
            rw [if_neg q]
        | succ c ih =>
          intro b hb g f f0 f1 sg hS HQ
          obtain ⟨bn, S⟩ := hS
          have B := bit_n16 b (by omega) fr f16
          have B2 := bit_n16 b (by omega) ot ot16
          refine b101_59 (br_i (fun q => absurd q (by omega)) (fun _ => ?_))
          rw [B.1, B2.2.1]
          have eR : List.range' b (c + 1) = b :: List.range' (b + 1) c := rfl
          refine br_i (fun q => ?_) (fun q => b101_128 ?_)
          · have q0 : bNotIn fr b = 0 := by omega
            have eL : clsL fr ot (List.range' b (c + 1)) = (ot ||| b) :: clsL fr ot (List.range' (b + 1) c) := by
              rw [eR]; unfold clsL
              rw [List.filter_cons_of_pos (by rw [q0]; rfl)]; rfl
            have sub : ∀ k, b.testBit k = true → fr.testBit k = true := fun k hk => by
              have : (bNotIn fr b).testBit k = false := by rw [q0]; exact Nat.zero_testBit k
              unfold bNotIn at this
              rw [Nat.testBit_xor, Nat.testBit_and, hk] at this
              cases x : fr.testBit k
              · rw [x] at this; cases this
              · rfl
            have s16 := B2.2.2.1
            have s2 : SCR h (up2 g 41 7 ((ot ||| b : Nat) : Int)) := SCR_u sg (by decide)
            have S2 := SCE_bn (g := g) (v := ((ot ||| b : Nat) : Int)) (bn' := bitF (ot ||| b)) (by omega) (by omega) (fun k _ => by
              rw [bR_c]
              unfold bit bitF
              rw [Int.toNat_natCast]
              cases (ot ||| b).testBit k <;> simp) S
            refine c_sc (R_scr s2 hR) s2 S2 (fun k fk hk => b101_97 ?_)
            rw [s2.1 2 (by decide)] at hk
            have sk : SCR h k := SCR_FS s2 fk
            have ev : v1 = ((v1.toNat : Nat) : Int) := by omega
            have A := c_alike (d := d + 6) (Q := fun r h' => X (d + 10) 101 105 [some (P 0), some (I v1), some (I v2), some (I (fr : Int)), some (I (ot : Int)), some (I f), some (I (b : Int))] [r] h' Q) hR sk (hr := v1.toNat) (by omega) f16 (show b < 16 by omega) hfr (s := ot ||| b) (fun j hj => by rw [Nat.testBit_or, dis j hj]; rfl) hk (fun y hy => ?_)
            · rw [← ev] at A; exact A
            · subst hy
              refine b101_105 ?_
              have k7 : k 41 7 = ((ot ||| b : Nat) : Int) := by rw [fk 41 (by decide), up_s]
              rw [k7]
              have Sk := SCE_FS fk S2
              cases qo : okB h v1.toNat (ot ||| b)
              · refine br_i (fun x => absurd rfl x) (fun _ => b101_128 ?_)
                rw [w32_n (by omega)]
                refine ih (b + 1) (by omega) k f f0 (by omega) sk ⟨_, Sk⟩ (fun g y s ey => HQ g y s ?_)
                rw [ey, eL]
                show _ = (if okB h v1.toNat (ot ||| b) = true then _ else _)
                rw [if_neg (by rw [qo]; decide)]
              · refine br_i (fun _ => br_i (fun q5 => b101_128 ?_) (fun q5 => HQ k _ sk ?_)) (fun x => absurd (by decide) x)
                · rw [w32_n (by omega), w32_of (x := f + 1) (by omega) (by omega)]
                  refine ih (b + 1) (by omega) k (f + 1) (by omega) (by omega) sk ⟨_, Sk⟩ (fun g y s ey => HQ g y s ?_)
                  rw [ey, eL]
                  show _ = (if okB h v1.toNat (ot ||| b) = true then _ else _)
                  rw [if_pos qo, if_neg q5]
                · rw [eL]
                  show _ = (if okB h v1.toNat (ot ||| b) = true then _ else _)
                  rw [if_pos qo, if_pos (Classical.not_not.mp q5)]
          · have q0 : ¬ bNotIn fr b = 0 := by omega
            rw [w32_n (by omega)]
            refine ih (b + 1) (by omega) g f f0 (by omega) sg ⟨bn, S⟩ (fun g y s ey => HQ g y s ?_)
            rw [ey, eR]
            unfold clsL
            rw [List.filter_cons_of_neg (by simpa using q0)]
      refine L 16 0 rfl g 0 (by decide) (by decide) (o_scr o) ⟨_, S⟩ (fun g y s ey => HN g y fr ot s f16 ot16 hfr hot ?_)
      rw [ey, List.range_eq_range']
    · have HN := H2 hv hw
      obtain ⟨a0, a1⟩ := hv
      clear H1 H2 H3
      repeat' (first | exact HN | (exfalso; omega) | (apply br_i <;> intro _) | apply b101_0 | apply z123 | apply b101_6 | apply z121 | apply b101_26 | apply an_i | decide | omega)
  · have HN := H3 hv
    clear H1 H2 H3
    repeat' (first | exact HN | (exfalso; omega) | (apply br_i <;> intro _) | apply b101_0 | apply z123 | apply b101_6 | apply z121 | apply b101_14 | apply an_i | decide | omega)
end P60
