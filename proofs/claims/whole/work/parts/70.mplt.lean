/-! a tick of the model: scene, plates, heats -/
section P70
variable {d : Nat} {c k g : HP} {Q : PV → HP → Prop}
/-- boxes work as the class has it: as told, or one as the hours say -/
def BYH (c k : HP) (hr : Nat) : Prop := (k 69 70 < 0 ∧ k 92 = c 25) ∨ (∃ b : Nat, b < 8 ∧ k 69 70 = (b : Int) ∧ (bAnd (bShr (k 69 71) (hr : Int)) 1 = 1 ↔ ¬ c 25 b = 0) ∧ ∀ j, j ≠ b → k 92 j = c 25 j)
def mkP (c : HP) (hr p : Nat) : Int := sm (htF (c 24) (c 23) (c 25) p) (c 22 2).toNat + sm (htF (c 28) (c 27) (onH c hr) p) (c 26 2).toNat
/-- what stands while plates are gone through -/
def PF (c k g : HP) (hr : Nat) : Prop :=
  ((∀ q, q ≠ 69 → q ≠ 95 → q ≠ 75 → q ≠ 76 → ¬ (105 ≤ q ∧ q ≤ 112) → g q = k q) ∧
  (∀ x, ¬ (33 ≤ x ∧ x ≤ 35) → ¬ (49 ≤ x ∧ x ≤ 53) → ¬ (55 ≤ x ∧ x ≤ 62) → g 69 x = k 69 x)) ∧
  ((∀ p : Nat, (p : Int) < c 2 0 → g 105 p = wrm c p) ∧ g 95 = hS c hr (c 26 2).toNat ∧ g 75 = hF c (c 8) hr (c 2 0).toNat ∧ (flp (hF c (c 8) hr (c 2 0).toNat) (hF c (c 9) hr (c 2 0).toNat) (g 76) ∧ ∀ p, c 8 p < 0 → g 76 p = k 76 p)) ∧
  (g 69 59 = c 34 hr ∧ g 69 60 = c 30 5 ∧ g 69 61 = 100 ∧ g 69 62 = 100) ∧
  ((∀ j : Nat, (j : Int) < c 12 1 → g 106 j = c 15 j) ∧ (∀ j : Nat, (j : Int) < c 17 1 → g 107 j = c 21 j) ∧
  (∀ j : Nat, (j : Int) < c 22 2 → (g 108 j = 0 ↔ c 25 j = 0) ∧ g 109 j = c 23 j) ∧ (∀ j : Nat, (j : Int) < c 26 2 → g 110 j = onH c hr j) ∧
  (∀ p : Nat, (p : Int) < c 2 0 → g 111 p = hF c (c 9) hr (c 2 0).toNat p))
def BG : Int := 1000000000000000
def PM (c k g : HP) (hr i : Nat) : Prop := PF c k g hr ∧
  ((0 ≤ k 69 33 ∧ k 69 33 ≤ BG → g 69 33 = k 69 33 + sm (tkT c hr) i) ∧ (0 ≤ k 69 34 ∧ k 69 34 ≤ BG → g 69 34 = k 69 34 + sm (mkP c hr) i) ∧ (0 ≤ k 69 35 ∧ k 69 35 ≤ BG → g 69 35 = k 69 35 + sm (snC c hr) i)) ∧ ∀ p, p < i → g 112 p = CHF c hr p
theorem w64_of {x : Int} (h1 : -9000000000000000000 ≤ x) (h2 : x ≤ 9000000000000000000) : w64 x = x := by unfold w64; omega
/-- the rows of the model as the class's -/
theorem PF_c {B : Int} {hr : Nat} (hT : TKR c k B) (hg : PF c k g hr) : (g 70 = c 3 ∧ g 71 = c 4 ∧ g 72 = c 5 ∧ g 73 = c 7 ∧ g 74 = c 6) ∧ (g 79 = c 31 ∧ g 80 = c 32 ∧ g 81 = c 33) ∧ (g 83 = c 13 ∧ g 84 = c 14 ∧ g 86 = c 18 ∧ g 87 = c 19 ∧ g 88 = c 20) ∧ (g 91 = c 24 ∧ g 93 = c 27 ∧ g 94 = c 28) ∧ (g 69 9 = c 2 0 ∧ g 69 17 = c 12 1 ∧ g 69 22 = c 17 1 ∧ g 69 26 = c 22 2 ∧ g 69 30 = c 26 2) := by
  obtain ⟨-, ⟨k70, k71, k72, k73, k74, k75⟩, ⟨k79, k80, k81, k82⟩, ⟨k83, k84, k85, k86, k87, k88, k89⟩, ⟨k90, k91, k93, k94, k95⟩, ⟨k9, k17, k22, k26, k30, k31⟩, -⟩ := id hT
  have F : ∀ q, (q ≠ 69 ∧ q ≠ 95 ∧ q ≠ 75 ∧ q ≠ 76 ∧ ¬ (105 ≤ q ∧ q ≤ 112)) → g q = k q := fun q hq => hg.1.1 q hq.1 hq.2.1 hq.2.2.1 hq.2.2.2.1 hq.2.2.2.2
  have G : ∀ x, (¬ (33 ≤ x ∧ x ≤ 35) ∧ ¬ (49 ≤ x ∧ x ≤ 53) ∧ ¬ (55 ≤ x ∧ x ≤ 62)) → g 69 x = k 69 x := fun x hx => hg.1.2 x hx.1 hx.2.1 hx.2.2
  rw [F 70 (by decide), F 71 (by decide), F 72 (by decide), F 73 (by decide), F 74 (by decide), F 79 (by decide), F 80 (by decide), F 81 (by decide), F 83 (by decide), F 84 (by decide), F 86 (by decide), F 87 (by decide), F 88 (by decide), F 91 (by decide), F 93 (by decide), F 94 (by decide), G 9 (by decide), G 17 (by decide), G 22 (by decide), G 26 (by decide), G 30 (by decide)]
  exact ⟨⟨k70, k71, k72, k73, k74⟩, ⟨k79, k80, k81⟩, ⟨k83, k84, k86, k87, k88⟩, ⟨k91, k93, k94⟩, ⟨k9, k17, k22, k26, k30⟩⟩
theorem PF_M {B : Int} {hr : Nat} (hT : TKR c k B) (hg : PF c k g hr) : MS g := by
  have hO := hT.1
  obtain ⟨⟨⟨r56, r57, r58, r59, r60, r61, r62, r63, r64, r65⟩, ⟨r78, r79, r80⟩, ⟨r84, r85, r86, r87⟩, ⟨r90, r91, r92, r93, r94, r95, r96, r97⟩, ⟨r99, r101, r103, r104, r105⟩⟩, ⟨r76, r77, r114, r81, r88, r66, r67⟩, -⟩ := id hO
  obtain ⟨⟨g70, g71, g72, g73, g74⟩, ⟨g79, g80, g81⟩, ⟨g83, g84, g86, g87, g88⟩, ⟨g91, g93, g94⟩, ⟨g9, g17, g22, g26, g30⟩⟩ := PF_c hT hg
  obtain ⟨-, -, ⟨g59, g60, g61, g62⟩, ⟨g106, -⟩⟩ := id hg
  have x34 := r88 hr
  unfold MS
  rw [g71, g72, g74, g79, g80, g81, g83, g84, g86, g87, g88, g91, g94, g9, g17, g22, g26, g30, g59, g60, g61, g62]
  refine ⟨⟨⟨r56, r57⟩, ⟨r58, r59⟩, ⟨r60, r61⟩, ⟨r62, r63⟩, ⟨r64, r65⟩⟩, ⟨⟨by omega, by omega⟩, ⟨r66, r67⟩, by decide, by decide⟩, ⟨r78, r79, r80, r84, r85, r86, r87, r101, r105⟩, ⟨fun j hj => ?_, (lnkJ hO).2⟩⟩
  rw [g106 j (by omega)]
  exact (lnkJ hO).1 j hj
theorem PF_tk {B : Int} {hr : Nat} (hT : TKR c k B) (hg : PF c k g hr) (p : Nat) : tkF (g 71) (g 72) (g 80) (g 74) (g 69 59) (g 69 60) p = tkT c hr p := by
  obtain ⟨⟨g70, g71, g72, g73, g74⟩, ⟨g79, g80, g81⟩, -⟩ := PF_c hT hg
  obtain ⟨-, -, ⟨g59, g60, g61, g62⟩, -⟩ := id hg
  rw [g71, g72, g80, g74, g59, g60]
  rfl
theorem PF_mk {B : Int} {hr : Nat} (hT : TKR c k B) (hg : PF c k g hr) (p : Nat) : sm (bxF (g 91) (g 109) (g 108) (g 69 61) p) (g 69 26).toNat + sm (htF (g 94) (g 93) (g 110) p) (g 69 30).toNat = mkP c hr p := by
  obtain ⟨-, -, -, ⟨g91, g93, g94⟩, ⟨g9, g17, g22, g26, g30⟩⟩ := PF_c hT hg
  obtain ⟨-, -, ⟨g59, g60, g61, g62⟩, ⟨g106, g107, g108, g110, g111⟩⟩ := id hg
  unfold mkP
  rw [g91, g93, g94, g26, g30, g61]
  rw [sm_c (f := bxF (c 24) (g 109) (g 108) 100 p) (g := htF (c 24) (c 23) (c 25) p) (fun j hj => ?_), sm_c (f := htF (c 28) (c 27) (g 110) p) (g := htF (c 28) (c 27) (onH c hr) p) (fun j hj => ?_)]
  · unfold htF
    rw [g110 j (by omega)]
  · have x := g108 j (by omega)
    unfold bxF htF
    rw [x.2]
    by_cases q : ¬ c 25 j = 0 ∧ c 23 j = p
    · rw [if_pos q, if_pos ⟨fun y => q.1 (x.1.mp y), q.2⟩, Int.mul_ediv_cancel _ (by decide)]
    · rw [if_neg q, if_neg (fun y => q ⟨fun z => y.1 (x.1.mpr z), y.2⟩)]
theorem PF_sd {B : Int} {hr p : Nat} (hT : TKR c k B) (hg : PF c k g hr) (hp : (p : Int) < c 2 0) : TM g p (g 105 p) = sdT c hr p := by
  have hO := hT.1
  obtain ⟨⟨⟨r56, r57, r58, r59, r60, r61, r62, r63, r64, r65⟩, ⟨r78, r79, r80⟩, ⟨r84, r85, r86, r87⟩, ⟨r90, r91, r92, r93, r94, r95, r96, r97⟩, ⟨r99, r101, r103, r104, r105⟩⟩, -⟩ := id hO
  obtain ⟨⟨g70, g71, g72, g73, g74⟩, ⟨g79, g80, g81⟩, -⟩ := PF_c hT hg
  obtain ⟨-, ⟨g105, -⟩, ⟨g59, g60, g61, g62⟩, ⟨g106, g107, g108, g110, g111⟩⟩ := id hg
  have x := r87 (c 5 p * 10 + c 30 5).toNat
  unfold TM sdT
  rw [g105 p hp, g111 p hp, g79, g71, g81, g72, g60, g62]
  unfold sbF
  rw [Int.mul_ediv_cancel _ (by decide), if_pos x.2]
theorem PF_ld {B : Int} {hr : Nat} (hT : TKR c k B) (hg : PF c k g hr) (p : Nat) : sm (ledJ (g 83) (g 84) (g 106) (g 105) p) (g 69 17).toNat + sm (ledP (g 86) (g 87) (g 88) (g 107) (g 105) p) (g 69 22).toNat = sm (ledJ (c 13) (c 14) (c 15) (wrm c) p) (c 12 1).toNat + sm (ledP (c 18) (c 19) (c 20) (c 21) (wrm c) p) (c 17 1).toNat := by
  have hO := hT.1
  obtain ⟨-, -, ⟨g83, g84, g86, g87, g88⟩, -, ⟨g9, g17, g22, g26, g30⟩⟩ := PF_c hT hg
  obtain ⟨-, ⟨g105, -⟩, -, ⟨g106, g107, -⟩⟩ := id hg
  rw [g83, g84, g86, g87, g88, g17, g22]
  rw [sm_c (f := ledJ (c 13) (c 14) (g 106) (g 105) p) (g := ledJ (c 13) (c 14) (c 15) (wrm c) p) (fun j hj => ?_), sm_c (f := ledP (c 18) (c 19) (c 20) (g 107) (g 105) p) (g := ledP (c 18) (c 19) (c 20) (c 21) (wrm c) p) (fun j hj => ?_)]
  · obtain ⟨a0, a1, b0, b1, hn, l0, l1⟩ := (lnkJ hO).2 j hj
    unfold ledP ledJ
    rw [g105 _ (show (((c 18 j).toNat : Nat) : Int) < c 2 0 by omega), g105 _ (show (((c 19 j).toNat : Nat) : Int) < c 2 0 by omega), g107 j (by omega)]
  · obtain ⟨a0, a1, b0, b1, hn, l0, l1⟩ := (lnkJ hO).1 j hj
    unfold ledJ
    rw [g105 _ (show (((c 13 j).toNat : Nat) : Int) < c 2 0 by omega), g105 _ (show (((c 14 j).toNat : Nat) : Int) < c 2 0 by omega), g106 j (by omega)]
theorem mkP_r {B : Int} (hO : OKC c B) (hr p : Nat) : 0 ≤ mkP c hr p ∧ mkP c hr p ≤ 20000 := by
  obtain ⟨⟨⟨r56, r57, r58, r59, r60, r61, r62, r63, r64, r65⟩, ⟨r78, r79, r80⟩, ⟨r84, r85, r86, r87⟩, ⟨r90, r91, r92, r93, r94, r95, r96, r97⟩, ⟨r99, r101, r103, r104, r105⟩⟩, -⟩ := id hO
  have x1 := sm_b (f := htF (c 24) (c 23) (c 25) p) (n := (c 22 2).toNat) (fun j _ => ht_r p j r101)
  have x2 := sm_b (f := htF (c 28) (c 27) (onH c hr) p) (n := (c 26 2).toNat) (fun j _ => ht_r p j r105)
  unfold mkP
  omega
/-- by plates, or by what makes -/
theorem mk_x {wt pl on : Nat → Int} {n m : Nat} (H : ∀ j, j < m → 0 ≤ pl j ∧ pl j < n) : sm (fun p => sm (htF wt pl on p) m) n = sm (mkF wt on) m := by
  induction m with
  | zero => exact sm_0 (fun j _ => rfl)
  | succ m ih =>
    have e : (fun p => sm (htF wt pl on p) (m + 1)) = fun p => (fun p => sm (htF wt pl on p) m) p + (fun p => htF wt pl on p m) p := rfl
    have hm := H m (by omega)
    rw [e, sm_add, ih (fun j hj => H j (by omega))]
    simp only [sm]
    congr 1
    rw [sm_one (p := (pl m).toNat) (by omega) (fun j hj hn => by unfold htF; rw [if_neg (fun x => hn (by omega))])]
    unfold htF mkF
    by_cases q : ¬ on m = 0
    · rw [if_pos q, if_pos ⟨q, by omega⟩]
    · rw [if_neg q, if_neg (fun x => q x.1)]
theorem mkP_s {B : Int} (hO : OKC c B) (hr : Nat) : sm (mkP c hr) (c 2 0).toNat = sm (mkF (c 24) (c 25)) (c 22 2).toNat + sm (mkF (c 28) (onH c hr)) (c 26 2).toNat := by
  obtain ⟨⟨⟨r56, r57, r58, r59, r60, r61, r62, r63, r64, r65⟩, ⟨r78, r79, r80⟩, ⟨r84, r85, r86, r87⟩, ⟨r90, r91, r92, r93, r94, r95, r96, r97⟩, ⟨r99, r101, r103, r104, r105⟩⟩, -, ⟨r102, r100, r106, r51, r52, r53, r54⟩, -⟩ := id hO
  have e : mkP c hr = fun p => (fun p => sm (htF (c 24) (c 23) (c 25) p) (c 22 2).toNat) p + (fun p => sm (htF (c 28) (c 27) (onH c hr) p) (c 26 2).toNat) p := rfl
  rw [e, sm_add, mk_x (fun j hj => ?_), mk_x (fun j hj => ?_)]
  · have := r103 j
    have := r104 j (by omega)
    omega
  · have := r99 j
    have := r100 j (by omega)
    omega
theorem PM_69 {hr i : Nat} {a b s : Int} (hg : PF c k g hr) : PF c k (up2 (up2 (up2 g 69 33 a) 69 34 b) 69 35 s) hr := by
  refine ⟨⟨fun q h1 h2 h3 h4 h5 => by rw [up_p h1, up_p h1, up_p h1]; exact hg.1.1 q h1 h2 h3 h4 h5, fun x h1 h2 h3 => by rw [up_i (by omega), up_i (by omega), up_i (by omega)]; exact hg.1.2 x h1 h2 h3⟩, ?_, ?_, ?_⟩
  · simp only [up_p (show 105 ≠ 69 by decide), up_p (show 95 ≠ 69 by decide), up_p (show 75 ≠ 69 by decide), up_p (show 76 ≠ 69 by decide)]
    exact hg.2.1
  · simp only [up_i (show 59 ≠ 33 by decide), up_i (show 59 ≠ 34 by decide), up_i (show 59 ≠ 35 by decide), up_i (show 60 ≠ 33 by decide), up_i (show 60 ≠ 34 by decide), up_i (show 60 ≠ 35 by decide), up_i (show 61 ≠ 33 by decide), up_i (show 61 ≠ 34 by decide), up_i (show 61 ≠ 35 by decide), up_i (show 62 ≠ 33 by decide), up_i (show 62 ≠ 34 by decide), up_i (show 62 ≠ 35 by decide)]
    exact hg.2.2.1
  · simp only [up_p (show 106 ≠ 69 by decide), up_p (show 107 ≠ 69 by decide), up_p (show 108 ≠ 69 by decide), up_p (show 109 ≠ 69 by decide), up_p (show 110 ≠ 69 by decide), up_p (show 111 ≠ 69 by decide)]
    exact hg.2.2.2
theorem PF_112 {hr i : Nat} {a : Int} (hg : PF c k g hr) : PF c k (up2 g 112 i a) hr := by
  refine ⟨⟨fun q h1 h2 h3 h4 h5 => by rw [up_p (by omega)]; exact hg.1.1 q h1 h2 h3 h4 h5, by rw [up_p (by decide)]; exact hg.1.2⟩, ?_, ?_, ?_⟩
  · simp only [up_p (show 105 ≠ 112 by decide), up_p (show 95 ≠ 112 by decide), up_p (show 75 ≠ 112 by decide), up_p (show 76 ≠ 112 by decide)]
    exact hg.2.1
  · rw [up_p (by decide)]
    exact hg.2.2.1
  · simp only [up_p (show 106 ≠ 112 by decide), up_p (show 107 ≠ 112 by decide), up_p (show 108 ≠ 112 by decide), up_p (show 109 ≠ 112 by decide), up_p (show 110 ≠ 112 by decide), up_p (show 111 ≠ 112 by decide)]
    exact hg.2.2.2
theorem PF_g {hr : Nat} {a b : Int} (hg : PF c k g hr) : PF c k (up2 (up2 g 69 33 a) 69 34 b) hr := by
  have := PM_69 (i := 0) (a := a) (b := b) (s := g 69 35) hg
  have e : up2 (up2 (up2 g 69 33 a) 69 34 b) 69 35 (g 69 35) = up2 (up2 g 69 33 a) 69 34 b := by
    funext q j
    simp only [up2]
    by_cases h1 : q = 69 ∧ j = 35
    · obtain ⟨x, y⟩ := h1
      subst x y
      simp
    · simp only [h1, if_false]
  rw [e] at this
  exact this
theorem snC_m {hr p : Nat} {lk : Int} (el : lk = -(c 7 p + CHF c hr p)) (s0 : 0 ≤ sdT c hr p) : (¬ 0 < lk → snC c hr p = sdT c hr p) ∧ (0 < lk → sdT c hr p ≤ lk → snC c hr p = 0) ∧ (0 < lk → ¬ sdT c hr p ≤ lk → snC c hr p = sdT c hr p - lk) := by
  unfold snC mx0
  refine ⟨fun q => ?_, fun q q2 => ?_, fun q q2 => ?_⟩
  · rw [if_pos (by omega)]
  · rw [if_neg (by omega), if_neg (by omega)]
  · rw [if_neg (by omega), if_pos (by omega)]; omega
set_option maxHeartbeats 4000000 in
theorem m_plt {B : Int} {hr : Nat} (hT : TKR c k B) (hB : B ≤ 2000000000) (H : ∀ g, PM c k g hr (c 2 0).toNat → X (d + 2) 182 381 [some (P 69), some (I (hr : Int)), some (I 0), none, none, none, none] [] g Q) {g : HP} (hg : PM c k g hr 0) : X (d + 2) 182 250 [some (P 69), some (I (hr : Int)), some (I 0), none, none, none, none] [] g Q := by
  have hO := hT.1
  obtain ⟨⟨⟨r56, r57, r58, r59, r60, r61, r62, r63, r64, r65⟩, ⟨r78, r79, r80⟩, ⟨r84, r85, r86, r87⟩, ⟨r90, r91, r92, r93, r94, r95, r96, r97⟩, ⟨r99, r101, r103, r104, r105⟩⟩, ⟨r76, r77, r114, r81, r88, r66, r67⟩, -⟩ := id hO
  have L : ∀ m i : Nat, i + m = (c 2 0).toNat → ∀ g, PM c k g hr i → X (d + 2) 182 250 [some (P 69), some (I (hr : Int)), some (I (i : Int)), none, none, none, none] [] g Q := by
    intro m
    induction m with
    | zero =>
      intro i hi g hg
      obtain ⟨-, -, -, -, ⟨g9, -⟩⟩ := PF_c hT hg.1
      have ei : i = (c 2 0).toNat := by omega
      subst ei
      exact b182_250 (br_i (fun _ => H g hg) (fun q => absurd (by rw [g9]; omega) q))
    | succ m ih =>
      intro i hi g hg
      obtain ⟨⟨g70, g71, g72, g73, g74⟩, -, -, -, ⟨g9, -⟩⟩ := PF_c hT hg.1
      have hM := PF_M hT hg.1
      have wr := wrmR hO i
      have e105 := hg.1.2.1.1 i (by omega)
      have ip : (i : Int) < c 2 0 := by omega
      have tr := tkT_r hO hr i
      have sr := sdT_r hO hr i
      have mr := mkP_r hO hr i
      have cr : -1900000 ≤ CHF c hr i ∧ CHF c hr i ≤ 1800000 := CHG_r hO (by omega) (by omega) (Nat.le_refl _) (Nat.le_refl _)
      have nr := snC_r hO hr i
      have x7 := r114 i
      have st := sm_b (f := tkT c hr) (n := i) (fun j _ => tkT_r hO hr j)
      have ss := sm_b (f := snC c hr) (n := i) (fun j _ => snC_r hO hr j)
      have sk := sm_b (f := mkP c hr) (n := i) (fun j _ => mkP_r hO hr j)
      have eC : tkT c hr i + mkP c hr i - sdT c hr i + (sm (ledJ (c 13) (c 14) (c 15) (wrm c) i) (c 12 1).toNat + sm (ledP (c 18) (c 19) (c 20) (c 21) (wrm c) i) (c 17 1).toNat) = CHF c hr i := by
        unfold CHF CHG mkP; omega
      refine b182_250 (br_i (fun q => absurd q (by rw [g9]; omega)) (fun _ => m_takes (by omega) (by omega) hM (b182_263 (m_makes hM (b182_269 (m_sends (by omega) (by omega) (by simp only [Int.toNat_natCast]; omega) (by simp only [Int.toNat_natCast]; omega) hM (b182_276 ?_)))))))
      simp only [Int.toNat_natCast]
      rw [PF_tk hT hg.1, PF_mk hT hg.1, PF_sd hT hg.1 ip]
      have hg2 := PF_g (a := w64 (g 69 33 + tkT c hr i)) (b := w64 (g 69 34 + mkP c hr i)) hg.1
      have hM2 := PF_M hT hg2
      obtain ⟨-, -, -, -, ⟨g92, -⟩⟩ := PF_c hT hg2
      refine m_led hM2 (fun q hq => ?_) (b182_318 ?_)
      · rw [g92] at hq
        rw [hg2.2.1.1 q (by omega)]
        exact wrmR hO q
      rw [PF_ld hT hg2, w32_of (x := tkT c hr i + mkP c hr i) (by omega) (by omega), w32_of (x := tkT c hr i + mkP c hr i - sdT c hr i) (by omega) (by omega), eC, w32_of (x := CHF c hr i) (by omega) (by omega)]
      simp only [Int.toNat_natCast]
      rw [up_s]
      have e73 : up2 (up2 g 69 33 (w64 (g 69 33 + tkT c hr i))) 69 34 (w64 (g 69 34 + mkP c hr i)) 73 i = c 7 i := by rw [up_p (by decide), up_p (by decide), g73]
      rw [e73, w32_of (x := c 7 i + CHF c hr i) (by omega) (by omega), w32_of (x := -(c 7 i + CHF c hr i)) (by omega) (by omega)]
      have sm3 := snC_m (c := c) (hr := hr) (p := i) (lk := -(c 7 i + CHF c hr i)) rfl sr.1
      have N : ∀ (v l : Int), v = snC c hr i → X (d + 2) 182 369 [some (P 69), some (I (hr : Int)), some (I (i : Int)), some (I (tkT c hr i)), some (I (mkP c hr i)), some (I (sdT c hr i)), some (I l)] [J v, J (up2 (up2 g 69 33 (w64 (g 69 33 + tkT c hr i))) 69 34 (w64 (g 69 34 + mkP c hr i)) 69 35), P 69] (up2 (up2 (up2 g 69 33 (w64 (g 69 33 + tkT c hr i))) 69 34 (w64 (g 69 34 + mkP c hr i))) 112 i (CHF c hr i)) Q := by
        intro v l hv
        subst hv
        refine b182_369 ?_
        rw [w32_n (by omega)]
        have e : up2 (up2 (up2 (up2 g 69 33 (w64 (g 69 33 + tkT c hr i))) 69 34 (w64 (g 69 34 + mkP c hr i))) 112 i (CHF c hr i)) 69 35 (w64 (up2 (up2 g 69 33 (w64 (g 69 33 + tkT c hr i))) 69 34 (w64 (g 69 34 + mkP c hr i)) 69 35 + snC c hr i)) = up2 (up2 (up2 (up2 g 69 33 (w64 (g 69 33 + tkT c hr i))) 69 34 (w64 (g 69 34 + mkP c hr i))) 69 35 (w64 (g 69 35 + snC c hr i))) 112 i (CHF c hr i) := by
          rw [up_i (j := 35) (by decide), up_i (j := 35) (by decide)]
          funext q j
          simp only [up2]
          by_cases h1 : q = 69
          · subst h1
            simp
          · simp [h1]
        rw [e]
        refine ih (i + 1) (by omega) _ ⟨PF_112 (PM_69 (i := i) hg.1), ⟨fun hb => ?_, fun hb => ?_, fun hb => ?_⟩, fun p hp => ?_⟩
        · rw [up_p (by decide), up_i (by decide), up_i (by decide), up_s, hg.2.1.1 hb, w64_of (by unfold BG at hb; omega) (by unfold BG at hb; omega)]
          simp only [sm]; omega
        · rw [up_p (by decide), up_i (by decide), up_s, hg.2.1.2.1 hb, w64_of (by unfold BG at hb; omega) (by unfold BG at hb; omega)]
          simp only [sm]; omega
        · rw [up_p (by decide), up_s, hg.2.1.2.2 hb, w64_of (by unfold BG at hb; omega) (by unfold BG at hb; omega)]
          simp only [sm]; omega
        · rw [up_st, up_p (by decide), up_p (by decide), up_p (by decide)]
          by_cases e : p = i
          · subst e; exact st1_s
          · rw [st1_n e]; exact hg.2.2 p (by omega)
      refine an_i (by omega) (by omega) (an_i (by omega) (by omega) (an_i (by omega) (by omega) (br_i (fun q => br_i (fun q2 => N _ _ ?_) (fun q2 => ?_)) (fun q => N _ _ ?_))))
      · exact (sm3.2.1 q q2).symm
      · rw [w32_of (x := sdT c hr i - -(c 7 i + CHF c hr i)) (by omega) (by omega)]
        exact N _ _ (sm3.2.2 q q2).symm
      · exact (sm3.1 q).symm
  exact L (c 2 0).toNat 0 (by omega) g hg
end P70
