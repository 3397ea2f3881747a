/-! scenes: frames; the greatest rest as a number -/
def sc69 (k : Nat) : Bool := (Nat.ble 49 k && Nat.ble k 53) || (Nat.ble 55 k && Nat.ble k 62) || Nat.beq k 71 || (Nat.ble 74 k && Nat.ble k 77) || Nat.beq k 84 || Nat.beq k 85 || Nat.beq k 87 || Nat.beq k 90 || Nat.beq k 92
/-- nothing has changed but cells in which a call works -/
def SCR (h g : HP) : Prop := (∀ q, q < 41 ∨ (56 < q ∧ q < 69) ∨ (69 < q ∧ q < 105) ∨ (114 < q ∧ q < 120) → g q = h q) ∧ ∀ k, sc69 k = false → g 69 k = h 69 k
theorem SCR_r (h : HP) : SCR h h := ⟨fun _ _ => rfl, fun _ _ => rfl⟩
theorem SCR_t {h g k : HP} (a : SCR h g) (b : SCR g k) : SCR h k := ⟨fun q hq => (b.1 q hq).trans (a.1 q hq), fun k hk => (b.2 k hk).trans (a.2 k hk)⟩
theorem SCR_u {h g : HP} {p i : Nat} {v : Int} (a : SCR h g) (hp : (41 ≤ p ∧ p ≤ 56) ∨ (105 ≤ p ∧ p ≤ 114) ∨ 120 ≤ p) : SCR h (up2 g p i v) := ⟨fun q hq => by rw [up_p (by omega)]; exact a.1 q hq, fun k hk => by rw [up_p (by omega)]; exact a.2 k hk⟩
theorem SCR_m {h g : HP} {i : Nat} {v : Int} (a : SCR h g) (hi : sc69 i = true) : SCR h (up2 g 69 i v) := ⟨fun q hq => by rw [up_p (by omega)]; exact a.1 q hq, fun k hk => by
  have : k ≠ i := fun e => by rw [e, hi] at hk; cases hk
  rw [up_i this]; exact a.2 k hk⟩
theorem SCR_o {h g k : HP} (a : SCR h g) (b : ∀ q, ¬ ((41 ≤ q ∧ q ≤ 56) ∨ (105 ≤ q ∧ q ≤ 114) ∨ 120 ≤ q) → k q = g q) : SCR h k := ⟨fun q hq => by rw [b q (by omega)]; exact a.1 q hq, fun j hj => by rw [b 69 (by omega)]; exact a.2 j hj⟩
theorem SCR_FS {h g k : HP} (a : SCR h g) (b : FS g k) : SCR h k := SCR_o a (fun q hq => b q (by omega))
theorem SCR_105 {h g k : HP} (a : SCR h g) (b : o105 g k) : SCR h k := SCR_o a (fun q hq => b q (by omega))
theorem R_scr {h g : HP} (a : SCR h g) (hR : R h) : R g := by
  unfold R at *
  simp only [a.1 0 (by decide), a.1 2 (by decide), a.1 3 (by decide), a.1 4 (by decide), a.1 5 (by decide), a.1 6 (by decide), a.1 7 (by decide), a.1 8 (by decide), a.1 9 (by decide), a.1 10 (by decide), a.1 11 (by decide), a.1 12 (by decide), a.1 13 (by decide), a.1 14 (by decide), a.1 15 (by decide), a.1 17 (by decide), a.1 18 (by decide), a.1 19 (by decide), a.1 20 (by decide), a.1 21 (by decide), a.1 22 (by decide), a.1 23 (by decide), a.1 24 (by decide), a.1 25 (by decide), a.1 26 (by decide), a.1 27 (by decide), a.1 28 (by decide), a.1 29 (by decide), a.1 30 (by decide), a.1 31 (by decide), a.1 32 (by decide), a.1 33 (by decide), a.1 34 (by decide), a.1 35 (by decide), a.1 36 (by decide), a.1 37 (by decide), a.1 38 (by decide), a.1 39 (by decide), a.1 40 (by decide), a.1 57 (by decide), a.1 58 (by decide), a.1 59 (by decide), a.1 60 (by decide), a.1 61 (by decide), a.1 62 (by decide), a.1 63 (by decide), a.1 64 (by decide), a.1 65 (by decide), a.1 66 (by decide), a.1 67 (by decide), a.1 68 (by decide), a.1 70 (by decide), a.1 71 (by decide), a.1 72 (by decide), a.1 73 (by decide), a.1 74 (by decide), a.1 75 (by decide), a.1 76 (by decide), a.1 77 (by decide), a.1 78 (by decide), a.1 79 (by decide), a.1 80 (by decide), a.1 81 (by decide), a.1 82 (by decide), a.1 83 (by decide), a.1 84 (by decide), a.1 85 (by decide), a.1 86 (by decide), a.1 87 (by decide), a.1 88 (by decide), a.1 89 (by decide), a.1 90 (by decide), a.1 91 (by decide), a.1 92 (by decide), a.1 93 (by decide), a.1 94 (by decide), a.1 95 (by decide), a.1 96 (by decide), a.1 97 (by decide), a.1 98 (by decide), a.1 99 (by decide), a.1 100 (by decide), a.1 101 (by decide), a.1 102 (by decide), a.1 103 (by decide), a.1 104 (by decide), a.1 115 (by decide), a.1 116 (by decide), a.1 117 (by decide), a.1 118 (by decide), a.1 119 (by decide), a.2 9 rfl, a.2 17 rfl, a.2 22 rfl, a.2 26 rfl, a.2 30 rfl, a.2 31 rfl, a.2 32 rfl, a.2 33 rfl, a.2 34 rfl, a.2 35 rfl, a.2 37 rfl, a.2 43 rfl, a.2 44 rfl, a.2 46 rfl, a.2 70 rfl, a.2 83 rfl]
  exact hR
/-- the same, but that pipes may have thawed and acts be forgotten -/
def SCT (h g : HP) : Prop := (∀ q, q ≠ 21 → q ≠ 57 → q ≠ 89 → (q < 41 ∨ (56 < q ∧ q < 69) ∨ (69 < q ∧ q < 105) ∨ (114 < q ∧ q < 120)) → g q = h q) ∧ ∀ k, sc69 k = false → k ≠ 43 → k ≠ 44 → g 69 k = h 69 k
theorem SCT_of {h g : HP} (a : SCR h g) : SCT h g := ⟨fun q _ _ _ hq => a.1 q hq, fun k hk _ _ => a.2 k hk⟩
theorem SCT_t {h g k : HP} (a : SCT h g) (b : SCR g k) : SCT h k := ⟨fun q h1 h2 h3 hq => (b.1 q hq).trans (a.1 q h1 h2 h3 hq), fun k hk h1 h2 => (b.2 k hk).trans (a.2 k hk h1 h2)⟩
theorem SCR_y {h g : HP} (a : SCR h g) : SCR g h := ⟨fun q hq => (a.1 q hq).symm, fun k hk => (a.2 k hk).symm⟩
theorem SCT_c {h g : HP} (a : SCT h g) {q : Nat} (hq : q < 41) (h1 : q ≠ 21) : g q = h q := a.1 q h1 (by omega) (by omega) (Or.inl hq)
theorem SCT_m {h g : HP} (a : SCT h g) {q : Nat} (hq : 69 < q) (h2 : q < 105) (h1 : q ≠ 89) : g q = h q := a.1 q (by omega) (by omega) h1 (by omega)
theorem RK_of {h g : HP} (hR : R h) (a : SCT h g) : RK g := by
  obtain ⟨⟨r1, r2, r3, r4, r5, r6, r7, r8⟩, ⟨r9, r10, r11, r12, r13⟩, ⟨r14, r15, r16, r17, r18, r19, r20⟩, ⟨r21, r22, r23, r24, r25, r26⟩, ⟨r27, r28, r29, r30, r31⟩, ⟨r32, r33⟩, ⟨r34, r35, r36, r37, r38, r39, r40, r41, r42, r43, r44, r45⟩, ⟨r46, r47, r48⟩, ⟨r49, r50, r51, r52, r53, r54, r55⟩, ⟨r56, r57, r58, r59, r60, r61, r62, r63, r64, r65⟩, ⟨r66, r67, r68, r69, r70, r71, r72, r73, r74, r75⟩, ⟨r76, r77, r78, r79, r80, r81, r82, r83⟩, ⟨r84, r85, r86, r87, r88, r89⟩, ⟨r90, r91, r92, r93, r94, r95, r96, r97, r98⟩, ⟨r99, r100, r101, r102, r103, r104, r105, r106⟩, ⟨r107, r108, r109, r110, r111, r112, r113⟩, ⟨r114, r115, r116, r117, r118, r119, r120, r121, r122, r123⟩⟩ := id hR
  unfold RK
  simp only [SCT_c a (q := 2) (by decide) (by decide), SCT_c a (q := 4) (by decide) (by decide), SCT_c a (q := 5) (by decide) (by decide), SCT_c a (q := 6) (by decide) (by decide), SCT_c a (q := 12) (by decide) (by decide), SCT_c a (q := 13) (by decide) (by decide), SCT_c a (q := 14) (by decide) (by decide), SCT_c a (q := 15) (by decide) (by decide), SCT_c a (q := 17) (by decide) (by decide), SCT_c a (q := 18) (by decide) (by decide), SCT_c a (q := 19) (by decide) (by decide), SCT_c a (q := 20) (by decide) (by decide), SCT_c a (q := 22) (by decide) (by decide), SCT_c a (q := 23) (by decide) (by decide), SCT_c a (q := 24) (by decide) (by decide), SCT_c a (q := 26) (by decide) (by decide), SCT_c a (q := 27) (by decide) (by decide), SCT_c a (q := 28) (by decide) (by decide), SCT_c a (q := 31) (by decide) (by decide), SCT_c a (q := 32) (by decide) (by decide), SCT_c a (q := 33) (by decide) (by decide)]
  exact ⟨⟨r56, r57, r58, r59, r60, r61, r62, r63, r64, r65⟩, ⟨r78, r79, r80⟩, ⟨r84, r85, r86, r87⟩, ⟨r90, r91, r92, r93, r94, r95, r96, r97⟩, ⟨r99, r101, r103, r104, r105⟩⟩
/-- the greatest rest -/
noncomputable def grv (n : Nat) (N : (Nat → Int) → Nat → Int) (p : Nat) : Int := Classical.epsilon (fun w => GR n N w) p
theorem grv_e {n : Nat} {N : (Nat → Int) → Nat → Int} {w : Nat → Int} (H : GR n N w) {p : Nat} (hp : p < n) : w p = grv n N p := GR_u H (Classical.epsilon_spec ⟨w, H⟩) hp
theorem grv_c {n : Nat} {N N' : (Nat → Int) → Nat → Int} (H : ∀ w p, p < n → N w p = N' w p) : grv n N = grv n N' := by
  have e : (fun w => GR n N w) = (fun w => GR n N' w) := by
    funext w
    exact propext ⟨GR_c H, GR_c (fun w p hp => (H w p hp).symm)⟩
  funext p
  unfold grv
  rw [e]
/-- what a plate gains in a scene, less what it loses -/
def NT (h : HP) (sun yr wb sb : Int) (wk bn fz dr st ld ex : Nat → Int) : (Nat → Int) → Nat → Int :=
  nt (h 12 1).toNat (h 17 1).toNat (fun p => tkF (h 4) (h 5) (h 32) (h 6) sun yr p + ex p + sm (bxF (h 24) st wk wb p) (h 22 2).toNat + sm (htF (h 28) (h 27) bn p) (h 26 2).toNat) (fun p t => snt (h 31) (h 4 p) (dr p) (sbF (h 33) (h 5) yr sb p) t) (h 13) (h 14) ld (h 18) (h 19) (h 20) fz
noncomputable def RV (h : HP) (sun yr wb sb : Int) (wk bn fz dr st ld ex : Nat → Int) (p : Nat) : Int := grv (h 2 0).toNat (NT h sun yr wb sb wk bn fz dr st ld ex) p
theorem ledJ_l {a b l l' w : Nat → Int} {p j : Nat} (e : l j = l' j) : ledJ a b l w p j = ledJ a b l' w p j := by unfold ledJ; rw [e]
theorem ledP_z {a b l z z' w : Nat → Int} {p k : Nat} (e : z k = 0 ↔ z' k = 0) : ledP a b l z w p k = ledP a b l z' w p k := by
  unfold ledP
  by_cases c : z k = 0
  · rw [if_neg (not_not_intro c), if_neg (not_not_intro (e.mp c))]
  · rw [if_pos c, if_pos (fun x => c (e.mpr x))]
theorem bxF_c {wt pl pl' on on' : Nat → Int} {ys : Int} {p k : Nat} (e : on k = 0 ↔ on' k = 0) (e2 : pl k = pl' k) : bxF wt pl on ys p k = bxF wt pl' on' ys p k := by
  unfold bxF
  rw [e2]
  by_cases c : on k = 0
  · rw [if_neg (fun x => x.1 c), if_neg (fun x => x.1 (e.mp c))]
  · by_cases c2 : pl' k = p
    · rw [if_pos ⟨c, c2⟩, if_pos ⟨fun x => c (e.mpr x), c2⟩]
    · rw [if_neg (fun x => c2 x.2), if_neg (fun x => c2 x.2)]
theorem htF_c {wt pl on on' : Nat → Int} {p k : Nat} (e : on k = 0 ↔ on' k = 0) : htF wt pl on p k = htF wt pl on' p k := by
  unfold htF
  by_cases c : on k = 0
  · rw [if_neg (fun x => x.1 c), if_neg (fun x => x.1 (e.mp c))]
  · by_cases c2 : pl k = p
    · rw [if_pos ⟨c, c2⟩, if_pos ⟨fun x => c (e.mpr x), c2⟩]
    · rw [if_neg (fun x => c2 x.2), if_neg (fun x => c2 x.2)]
/-- scenes that are alike have the same rest -/
theorem RV_c {h g : HP} {sun yr wb sb : Int} {wk bn fz dr st ld ex wk' bn' fz' dr' st' ld' ex' : Nat → Int} (a : SCT h g) (e1 : ∀ k : Nat, (k : Int) < h 22 2 → (wk k = 0 ↔ wk' k = 0) ∧ st k = st' k) (e2 : ∀ k : Nat, (k : Int) < h 26 2 → (bn k = 0 ↔ bn' k = 0)) (e3 : ∀ k : Nat, (k : Int) < h 17 1 → (fz k = 0 ↔ fz' k = 0)) (e4 : ∀ p : Nat, (p : Int) < h 2 0 → dr p = dr' p ∧ ex p = ex' p) (e5 : ∀ j : Nat, (j : Int) < h 12 1 → ld j = ld' j) : RV h sun yr wb sb wk bn fz dr st ld ex = RV g sun yr wb sb wk' bn' fz' dr' st' ld' ex' := by
  unfold RV
  funext p
  rw [SCT_c a (q := 2) (by decide) (by decide)]
  refine congrFun (grv_c (fun w p hp => ?_)) p
  unfold NT nt
  simp only [SCT_c a (q := 4) (by decide) (by decide), SCT_c a (q := 5) (by decide) (by decide), SCT_c a (q := 6) (by decide) (by decide), SCT_c a (q := 12) (by decide) (by decide), SCT_c a (q := 13) (by decide) (by decide), SCT_c a (q := 14) (by decide) (by decide), SCT_c a (q := 17) (by decide) (by decide), SCT_c a (q := 18) (by decide) (by decide), SCT_c a (q := 19) (by decide) (by decide), SCT_c a (q := 20) (by decide) (by decide), SCT_c a (q := 22) (by decide) (by decide), SCT_c a (q := 24) (by decide) (by decide), SCT_c a (q := 26) (by decide) (by decide), SCT_c a (q := 27) (by decide) (by decide), SCT_c a (q := 28) (by decide) (by decide), SCT_c a (q := 31) (by decide) (by decide), SCT_c a (q := 32) (by decide) (by decide), SCT_c a (q := 33) (by decide) (by decide)]
  have x4 := e4 p (by omega)
  have s1 : sm (bxF (h 24) st wk wb p) (h 22 2).toNat = sm (bxF (h 24) st' wk' wb p) (h 22 2).toNat := sm_c (fun j hj => bxF_c (e1 j (by omega)).1 (e1 j (by omega)).2)
  have s2 : sm (htF (h 28) (h 27) bn p) (h 26 2).toNat = sm (htF (h 28) (h 27) bn' p) (h 26 2).toNat := sm_c (fun j hj => htF_c (e2 j (by omega)))
  have s3 : sm (ledJ (h 13) (h 14) ld w p) (h 12 1).toNat = sm (ledJ (h 13) (h 14) ld' w p) (h 12 1).toNat := sm_c (fun j hj => ledJ_l (e5 j (by omega)))
  have s4 : sm (ledP (h 18) (h 19) (h 20) fz w p) (h 17 1).toNat = sm (ledP (h 18) (h 19) (h 20) fz' w p) (h 17 1).toNat := sm_c (fun j hj => ledP_z (e3 j (by omega)))
  rw [s1, s2, s3, s4, x4.1, x4.2]
/-- a rest is a rest: warmths of it -/
def isW (f g : Nat → Int) (n : Int) : Prop := ∀ p : Nat, (p : Int) < n → f p = g p ∧ 0 ≤ f p ∧ f p ≤ 600
theorem GR_w {n : Int} {N : (Nat → Int) → Nat → Int} {w : Nat → Int} (H : GR n.toNat N w) : isW w (grv n.toNat N) n := fun p hp => ⟨grv_e H (by omega), (H.1 p (by omega)).1, (H.1 p (by omega)).2.1⟩
theorem c_rv {d : Nat} {h : HP} {Q : PV → HP → Prop} (hR : RK h) (hS : SCN h) (H : ∀ g, FS h g → isW (g 48) (RV h (h 41 2) (h 41 3) (h 41 4) (h 41 5) (bR (h 41 6)) (bR (h 41 7)) (bR (h 41 8)) (drC h) (h 42) (h 43) (exC h)) (h 2 0) → Q (I 0) g) : X (d + 4) 65 0 [some (P 41), none] [] h Q :=
  c_settle hR hS (fun g hf hg => H g hf (GR_w hg))
theorem c_rvp {d : Nat} {h : HP} {Q : PV → HP → Prop} {p : Int} (hR : RK h) (hS : SCN h) (p0 : 0 ≤ p) (p1 : p < h 2 0) (H : ∀ g y, FS h g → y = RV h (h 41 2) (h 41 3) (h 41 4) (h 41 5) (bR (h 41 6)) (bR (h 41 7)) (bR (h 41 8)) (drC h) (h 42) (h 43) (exC h) p.toNat → 0 ≤ y → y ≤ 600 → Q (I y) g) : X (d + 5) 62 0 [some (P 41), some (I p)] [] h Q := by
  have n8 : h 2 0 ≤ 8 := hR.1.2.1
  refine b62_0 (c_rv hR hS (fun g hf hg => b62_4 (an_i p0 (by omega) ?_)))
  have := hg p.toNat (by omega)
  exact H g _ hf this.1 this.2.1 this.2.2
theorem MS_R {h g : HP} (hR : R h) (a : SCT h g) (h1 : 0 ≤ g 69 59 ∧ g 69 59 ≤ 1500) (h2 : 0 ≤ g 69 60 ∧ g 69 60 ≤ 9) (h3 : 0 ≤ g 69 61 ∧ g 69 61 ≤ 150) (h4 : 0 ≤ g 69 62 ∧ g 69 62 ≤ 150) (h5 : ∀ j : Nat, (j : Int) < h 12 1 → 0 ≤ g 106 j ∧ g 106 j ≤ 99) : MS g := by
  obtain ⟨⟨r1, r2, r3, r4, r5, r6, r7, r8⟩, ⟨r9, r10, r11, r12, r13⟩, ⟨r14, r15, r16, r17, r18, r19, r20⟩, ⟨r21, r22, r23, r24, r25, r26⟩, ⟨r27, r28, r29, r30, r31⟩, ⟨r32, r33⟩, ⟨r34, r35, r36, r37, r38, r39, r40, r41, r42, r43, r44, r45⟩, ⟨r46, r47, r48⟩, ⟨r49, r50, r51, r52, r53, r54, r55⟩, ⟨r56, r57, r58, r59, r60, r61, r62, r63, r64, r65⟩, ⟨r66, r67, r68, r69, r70, r71, r72, r73, r74, r75⟩, ⟨r76, r77, r78, r79, r80, r81, r82, r83⟩, ⟨r84, r85, r86, r87, r88, r89⟩, ⟨r90, r91, r92, r93, r94, r95, r96, r97, r98⟩, ⟨r99, r100, r101, r102, r103, r104, r105, r106⟩, ⟨r107, r108, r109, r110, r111, r112, r113⟩, ⟨r114, r115, r116, r117, r118, r119, r120, r121, r122, r123⟩⟩ := id hR
  have e9 := a.2 9 rfl (by decide) (by decide)
  have e17 := a.2 17 rfl (by decide) (by decide)
  have e22 := a.2 22 rfl (by decide) (by decide)
  have e26 := a.2 26 rfl (by decide) (by decide)
  have e30 := a.2 30 rfl (by decide) (by decide)
  have m := fun q (hq : 69 < q) (h2 : q < 105) (h3 : q ≠ 89) => SCT_m a hq h2 h3
  refine ⟨⟨by omega, by omega, by omega, by omega, by omega⟩, ⟨h1, h2, h3, h4⟩, ?_, ⟨fun j hj => ?_, fun j hj => ?_⟩⟩
  · rw [m 71 (by decide) (by decide) (by decide), m 72 (by decide) (by decide) (by decide), m 74 (by decide) (by decide) (by decide), m 79 (by decide) (by decide) (by decide), m 80 (by decide) (by decide) (by decide), m 81 (by decide) (by decide) (by decide), m 91 (by decide) (by decide) (by decide), m 94 (by decide) (by decide) (by decide), ← r2, ← r3, ← r5, ← r9, ← r10, ← r11, ← r22, ← r25]
    exact ⟨r78, r79, r80, r84, r85, r86, r87, r101, r105⟩
  · have x1 := r90 j
    have x2 := r91 j
    have x3 := r93 j (by omega)
    have x4 := h5 j (by omega)
    rw [m 83 (by decide) (by decide) (by decide), m 84 (by decide) (by decide) (by decide), ← r14, ← r15]
    omega
  · have x1 := r94 j
    have x2 := r95 j
    have x3 := r97 j (by omega)
    have x4 := r96 j
    rw [m 86 (by decide) (by decide) (by decide), m 87 (by decide) (by decide) (by decide), m 88 (by decide) (by decide) (by decide), ← r17, ← r18, ← r19]
    omega
theorem ntM_NT {h g : HP} (hR : R h) (a : SCT h g) (w : Nat → Int) (p : Nat) : ntM g w p = NT h (g 69 59) (g 69 60) (g 69 61) (g 69 62) (g 108) (g 110) (g 107) (g 111) (g 109) (g 106) (fun _ => 0) w p := by
  obtain ⟨⟨r1, r2, r3, r4, r5, r6, r7, r8⟩, ⟨r9, r10, r11, r12, r13⟩, ⟨r14, r15, r16, r17, r18, r19, r20⟩, ⟨r21, r22, r23, r24, r25, r26⟩, ⟨r27, r28, r29, r30, r31⟩, ⟨r32, r33⟩, ⟨r34, r35, r36, r37, r38, r39, r40, r41, r42, r43, r44, r45⟩, ⟨r46, r47, r48⟩, ⟨r49, r50, r51, r52, r53, r54, r55⟩, ⟨r56, r57, r58, r59, r60, r61, r62, r63, r64, r65⟩, ⟨r66, r67, r68, r69, r70, r71, r72, r73, r74, r75⟩, ⟨r76, r77, r78, r79, r80, r81, r82, r83⟩, ⟨r84, r85, r86, r87, r88, r89⟩, ⟨r90, r91, r92, r93, r94, r95, r96, r97, r98⟩, ⟨r99, r100, r101, r102, r103, r104, r105, r106⟩, ⟨r107, r108, r109, r110, r111, r112, r113⟩, ⟨r114, r115, r116, r117, r118, r119, r120, r121, r122, r123⟩⟩ := id hR
  have m := fun q (hq : 69 < q) (h2 : q < 105) (h3 : q ≠ 89) => SCT_m a hq h2 h3
  unfold ntM NT nt GM TM
  rw [a.2 17 rfl (by decide) (by decide), a.2 22 rfl (by decide) (by decide), a.2 26 rfl (by decide) (by decide), a.2 30 rfl (by decide) (by decide), m 71 (by decide) (by decide) (by decide), m 72 (by decide) (by decide) (by decide), m 74 (by decide) (by decide) (by decide), m 79 (by decide) (by decide) (by decide), m 80 (by decide) (by decide) (by decide), m 81 (by decide) (by decide) (by decide), m 83 (by decide) (by decide) (by decide), m 84 (by decide) (by decide) (by decide), m 86 (by decide) (by decide) (by decide), m 87 (by decide) (by decide) (by decide), m 88 (by decide) (by decide) (by decide), m 91 (by decide) (by decide) (by decide), m 93 (by decide) (by decide) (by decide), m 94 (by decide) (by decide) (by decide)]
  rw [← r35, ← r36, ← r37, ← r38, ← r2, ← r3, ← r5, ← r9, ← r10, ← r11, ← r14, ← r15, ← r17, ← r18, ← r19, ← r22, ← r24, ← r25]
  dsimp only
  rw [Int.add_zero]
theorem m_rv {d : Nat} {h g : HP} {Q : PV → HP → Prop} (hR : R h) (a : SCT h g) (hM : MS g) (H : ∀ k, o105 g k → isW (k 105) (RV h (g 69 59) (g 69 60) (g 69 61) (g 69 62) (g 108) (g 110) (g 107) (g 111) (g 109) (g 106) (fun _ => 0)) (h 2 0) → Q (I 0) k) : X (d + 2) 186 0 [some (P 69), none, none] [] g Q := by
  have e : g 69 9 = h 2 0 := by
    obtain ⟨⟨r1, r2, r3, r4, r5, r6, r7, r8⟩, ⟨r9, r10, r11, r12, r13⟩, ⟨r14, r15, r16, r17, r18, r19, r20⟩, ⟨r21, r22, r23, r24, r25, r26⟩, ⟨r27, r28, r29, r30, r31⟩, ⟨r32, r33⟩, ⟨r34, r35, r36, r37, r38, r39, r40, r41, r42, r43, r44, r45⟩, ⟨r46, r47, r48⟩, ⟨r49, r50, r51, r52, r53, r54, r55⟩, ⟨r56, r57, r58, r59, r60, r61, r62, r63, r64, r65⟩, ⟨r66, r67, r68, r69, r70, r71, r72, r73, r74, r75⟩, ⟨r76, r77, r78, r79, r80, r81, r82, r83⟩, ⟨r84, r85, r86, r87, r88, r89⟩, ⟨r90, r91, r92, r93, r94, r95, r96, r97, r98⟩, ⟨r99, r100, r101, r102, r103, r104, r105, r106⟩, ⟨r107, r108, r109, r110, r111, r112, r113⟩, ⟨r114, r115, r116, r117, r118, r119, r120, r121, r122, r123⟩⟩ := id hR
    rw [a.2 9 rfl (by decide) (by decide)]
    exact r34.symm
  refine m_find hM (fun k ho hg => H k ho ?_)
  rw [e] at hg
  exact GR_w (GR_c (fun w p _ => ntM_NT hR a w p) hg)
theorem m_rvp {d : Nat} {h g : HP} {Q : PV → HP → Prop} {p : Int} (hR : R h) (a : SCT h g) (hM : MS g) (p0 : 0 ≤ p) (p1 : p < h 2 0) (H : ∀ k y, o105 g k → y = RV h (g 69 59) (g 69 60) (g 69 61) (g 69 62) (g 108) (g 110) (g 107) (g 111) (g 109) (g 106) (fun _ => 0) p.toNat → 0 ≤ y → y ≤ 600 → Q (I y) k) : X (d + 3) 187 0 [some (P 69), some (I p)] [] g Q := by
  have n8 : h 2 0 ≤ 8 := by
    obtain ⟨⟨r1, r2, r3, r4, r5, r6, r7, r8⟩, ⟨r9, r10, r11, r12, r13⟩, ⟨r14, r15, r16, r17, r18, r19, r20⟩, ⟨r21, r22, r23, r24, r25, r26⟩, ⟨r27, r28, r29, r30, r31⟩, ⟨r32, r33⟩, ⟨r34, r35, r36, r37, r38, r39, r40, r41, r42, r43, r44, r45⟩, ⟨r46, r47, r48⟩, ⟨r49, r50, r51, r52, r53, r54, r55⟩, ⟨r56, r57, r58, r59, r60, r61, r62, r63, r64, r65⟩, ⟨r66, r67, r68, r69, r70, r71, r72, r73, r74, r75⟩, ⟨r76, r77, r78, r79, r80, r81, r82, r83⟩, ⟨r84, r85, r86, r87, r88, r89⟩, ⟨r90, r91, r92, r93, r94, r95, r96, r97, r98⟩, ⟨r99, r100, r101, r102, r103, r104, r105, r106⟩, ⟨r107, r108, r109, r110, r111, r112, r113⟩, ⟨r114, r115, r116, r117, r118, r119, r120, r121, r122, r123⟩⟩ := id hR
    exact r57
  refine b187_0 (m_rv hR a hM (fun k hf hg => b187_4 (an_i p0 (by omega) ?_)))
  have := hg p.toNat (by omega)
  exact H k _ hf this.1 this.2.1 this.2.2
