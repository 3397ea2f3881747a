/-! a pass of the class: exchange, make, lead, settle -/
section P64
variable {d : Nat} {h : HP} {Q : PV → HP → Prop}
def tkT (h : HP) (hr : Nat) : Nat → Int := tkF (h 4) (h 5) (h 32) (h 6) (h 34 hr) (h 30 5)
def sdT (h : HP) (hr p : Nat) : Int := snt (h 31) (h 4 p) (hF h (h 9) hr (h 2 0).toNat p) (h 33 (h 5 p * 10 + h 30 5).toNat) (wrm h p)
def onH (h : HP) (hr : Nat) : Nat → Int := fun k => if hS h hr (h 26 2).toNat k = 1 ∨ hS h hr (h 26 2).toNat k = 3 then 1 else 0
def mkF (wt on : Nat → Int) (k : Nat) : Int := if ¬ on k = 0 then wt k else 0
def CHG (h : HP) (hr nb nh nj np p : Nat) : Int := tkT h hr p - sdT h hr p + sm (htF (h 24) (h 23) (h 25) p) nb + sm (htF (h 28) (h 27) (onH h hr) p) nh + sm (ledJ (h 13) (h 14) (h 15) (wrm h) p) nj + sm (ledP (h 18) (h 19) (h 20) (h 21) (wrm h) p) np
/-- the class's rows while a pass adds up -/
def CH (h g : HP) (hr n nb nh nj np : Nat) : Prop := (∀ q, q ≠ 53 → q ≠ 29 → q ≠ 8 → q ≠ 9 → q ≠ 52 → q ≠ 54 → q ≠ 55 → g q = h q) ∧ ((∀ p : Nat, (p : Int) < h 2 0 → g 53 p = wrm h p) ∧ g 29 = hS h hr (h 26 2).toNat ∧ g 8 = hF h (h 8) hr (h 2 0).toNat ∧ g 9 = hF h (h 9) hr (h 2 0).toNat) ∧ g 52 2 = sm (tkT h hr) n ∧ (g 52 3 = sm (mkF (h 24) (h 25)) nb + sm (mkF (h 28) (onH h hr)) nh ∧ g 52 5 = h 52 5 ∧ g 52 6 = h 52 6) ∧ ∀ p, p < n → g 55 p = sdT h hr p ∧ g 54 p = CHG h hr nb nh nj np p
theorem tkT_r {B : Int} (hO : OKC h B) (hr p : Nat) : 0 ≤ tkT h hr p ∧ tkT h hr p ≤ 30000 := by
  obtain ⟨⟨⟨r56, r57, r58, r59, r60, r61, r62, r63, r64, r65⟩, ⟨r78, r79, r80⟩, ⟨r84, r85, r86, r87⟩, ⟨r90, r91, r92, r93, r94, r95, r96, r97⟩, ⟨r99, r101, r103, r104, r105⟩⟩, ⟨r76, r77, r114, r81, r88, r66, r67⟩, ⟨r102, r100, r106, r51, r52, r53, r54⟩, r120, r122⟩ := id hO
  have x := r88 hr
  exact tk_r p r78 x.1 (by omega) r86 r80
theorem sdT_r {B : Int} (hO : OKC h B) (hr p : Nat) : 0 ≤ sdT h hr p ∧ sdT h hr p ≤ 199980 := by
  obtain ⟨⟨⟨r56, r57, r58, r59, r60, r61, r62, r63, r64, r65⟩, ⟨r78, r79, r80⟩, ⟨r84, r85, r86, r87⟩, ⟨r90, r91, r92, r93, r94, r95, r96, r97⟩, ⟨r99, r101, r103, r104, r105⟩⟩, ⟨r76, r77, r114, r81, r88, r66, r67⟩, ⟨r102, r100, r106, r51, r52, r53, r54⟩, r120, r122⟩ := id hO
  have x4 := r78 p
  have x33 := r87 (h 5 p * 10 + h 30 5).toNat
  exact (snt_r r85 r84 x4.1 x4.2 x33.1 x33.2 (wrm_r (r114 p).1 (r77 p).1).1).2.2.2.2
set_option maxHeartbeats 4000000 in
theorem c_exch {B : Int} {hr : Nat} (hr1 : hr < 12) (hO : OKC h B) (H : ∀ g, CH h g hr (h 2 0).toNat 0 0 0 0 → X d 45 0 [some (P 52), some (P 22), none, none] [] g (fun _ h' => X (d + 1) 44 144 [some (P 52), some (I (hr : Int)), some (I (h 30 5)), some (I ((h 2 0).toNat : Int)), none] [] h' Q)) {g : HP} (hg : HED h g hr (h 26 2).toNat (h 2 0).toNat) : X (d + 1) 44 0 [some (P 52), some (I (hr : Int)), none, none, none] [] g Q := by
  obtain ⟨⟨⟨r56, r57, r58, r59, r60, r61, r62, r63, r64, r65⟩, ⟨r78, r79, r80⟩, ⟨r84, r85, r86, r87⟩, ⟨r90, r91, r92, r93, r94, r95, r96, r97⟩, ⟨r99, r101, r103, r104, r105⟩⟩, ⟨r76, r77, r114, r81, r88, r66, r67⟩, ⟨r102, r100, r106, r51, r52, r53, r54⟩, r120, r122⟩ := id hO
  have L : ∀ k i : Nat, i + k = (h 2 0).toNat → ∀ g, CH h g hr i 0 0 0 0 → X (d + 1) 44 23 [some (P 52), some (I (hr : Int)), some (I (h 30 5)), some (I (i : Int)), none] [] g Q := by
    intro k
    induction k with
    | zero =>
      intro i hi g hg
      have e2 : g 2 0 = h 2 0 := by rw [hg.1 2 (by decide) (by decide) (by decide) (by decide) (by decide) (by decide) (by decide)]
      have ei : i = (h 2 0).toNat := by omega
      subst ei
      exact b44_23 (br_i (fun _ => H g hg) (fun q => absurd (by rw [e2]; omega) q))
    | succ k ih =>
      intro i hi g hg
      have F : ∀ q, (q ≠ 53 ∧ q ≠ 29 ∧ q ≠ 8 ∧ q ≠ 9 ∧ q ≠ 52 ∧ q ≠ 54 ∧ q ≠ 55) → g q = h q := fun q hq => hg.1 q hq.1 hq.2.1 hq.2.2.1 hq.2.2.2.1 hq.2.2.2.2.1 hq.2.2.2.2.2.1 hq.2.2.2.2.2.2
      have e2 : g 2 0 = h 2 0 := by rw [F 2 (by decide)]
      have x34 := r88 hr
      have x5 := r79 i
      have x33 := r87 (h 5 i * 10 + h 30 5).toNat
      have xw := wrm_r (r114 i).1 (r77 i).1
      have tr := tkT_r hO hr i
      have sr := sdT_r hO hr i
      have es := sm_b (f := tkT h hr) (n := i) (fun j _ => tkT_r hO hr j)
      have i8 : (i : Int) < 8 := by omega
      refine b44_23 (br_i (fun q => absurd q (by rw [e2]; omega)) (fun _ => an_i (by omega) (by omega) ?_))
      refine c_taken (by omega) i8 (by rw [F 34 (by decide)]; exact x34.1) (by rw [F 34 (by decide)]; have := x34.2; simp only [Int.toNat_natCast]; omega) r66 r67 (by rw [F 4 (by decide)]; exact r78) (by rw [F 5 (by decide)]; exact r79) (by rw [F 6 (by decide)]; exact r80) (by rw [F 32 (by decide)]; exact r86) ?_
      rw [F 4 (by decide), F 5 (by decide), F 32 (by decide), F 6 (by decide), F 34 (by decide)]
      simp only [Int.toNat_natCast]
      refine b44_58 (an_i (by omega) (by omega) (an_i (by omega) (by omega) (z10 ?_)))
      rw [F 5 (by decide), F 33 (by decide)]
      simp only [Int.toNat_natCast]
      rw [w32_of (x := h 5 i * 10) (by omega) (by omega), w32_of (x := h 5 i * 10 + h 30 5) (by omega) (by omega)]
      refine an_i (by omega) (by omega) (an_i (by omega) (by omega) (b44_97 ?_))
      rw [hg.2.1.1 i (by omega), hg.2.1.2.2.2]
      refine c_sent (by omega) i8 xw.1 xw.2 (by rw [F 31 (by decide)]; exact r85) (by rw [F 31 (by decide)]; exact r84) (by rw [F 4 (by decide)]; exact r78) x33.1 x33.2 (b44_100 (an_i (by omega) (by omega) (an_i (by omega) (by omega) (an_i (by omega) (by omega) ?_))))
      rw [F 31 (by decide), F 4 (by decide), w32_n (by omega), up_s]
      simp only [Int.toNat_natCast]
      change X (d + 1) 44 23 _ [] (up2 (up2 (up2 g 55 i (sdT h hr i)) 54 i (w32 (tkT h hr i - sdT h hr i))) 52 2 (w32 (g 52 2 + tkT h hr i))) Q
      rw [w32_of (x := tkT h hr i - sdT h hr i) (by omega) (by omega), hg.2.2.1, w32_of (x := sm (tkT h hr) i + tkT h hr i) (by omega) (by omega)]
      refine ih (i + 1) (by omega) _ ⟨fun q h1 h2 h3 h4 h5 h6 h7 => by rw [up_p h5, up_p h6, up_p h7]; exact hg.1 q h1 h2 h3 h4 h5 h6 h7, ?_, ?_, ?_, fun p hp => ?_⟩
      · simp only [up_p (show 53 ≠ 52 by decide), up_p (show 53 ≠ 54 by decide), up_p (show 53 ≠ 55 by decide), up_p (show 29 ≠ 52 by decide), up_p (show 29 ≠ 54 by decide), up_p (show 29 ≠ 55 by decide), up_p (show 8 ≠ 52 by decide), up_p (show 8 ≠ 54 by decide), up_p (show 8 ≠ 55 by decide), up_p (show 9 ≠ 52 by decide), up_p (show 9 ≠ 54 by decide), up_p (show 9 ≠ 55 by decide)]
        exact hg.2.1
      · rw [up_s]; rfl
      · exact ⟨by rw [up_i (by decide), up_p (by decide), up_p (by decide)]; exact hg.2.2.2.1.1, by rw [up_i (by decide), up_p (by decide), up_p (by decide)]; exact hg.2.2.2.1.2.1, by rw [up_i (by decide), up_p (by decide), up_p (by decide)]; exact hg.2.2.2.1.2.2⟩
      · rw [up_p (by decide), up_p (by decide), up_st, up_p (p := 52) (by decide), up_st, up_p (p := 55) (by decide)]
        by_cases e : p = i
        · subst e
          rw [st1_s, st1_s]
          exact ⟨rfl, by unfold CHG; simp [sm]⟩
        · rw [st1_n e, st1_n e]; exact hg.2.2.2.2 p (by omega)
  have e30 : g 30 5 = h 30 5 := by rw [hg.1 30 (by decide) (by decide) (by decide) (by decide)]
  refine b44_0 ?_
  rw [e30]
  refine L (h 2 0).toNat 0 (by omega) _ ⟨fun q h1 h2 h3 h4 h5 h6 h7 => by rw [up_p h5, up_p h5]; exact hg.1 q h1 h2 h3 h4, ?_, ?_, ?_, fun p hp => absurd hp (by omega)⟩
  · simp only [up_p (show 53 ≠ 52 by decide), up_p (show 29 ≠ 52 by decide), up_p (show 8 ≠ 52 by decide), up_p (show 9 ≠ 52 by decide)]
    exact hg.2
  · rw [up_i (by decide), up_s]; rfl
  · exact ⟨by rw [up_s]; rfl, by rw [up_i (by decide), up_i (by decide), hg.1 52 (by decide) (by decide) (by decide) (by decide)], by rw [up_i (by decide), up_i (by decide), hg.1 52 (by decide) (by decide) (by decide) (by decide)]⟩
theorem lnkJ {B : Int} (hO : OKC h B) : lnk (h 2 0).toNat (h 12 1).toNat (h 13) (h 14) (h 15) ∧ lnk (h 2 0).toNat (h 17 1).toNat (h 18) (h 19) (h 20) := by
  obtain ⟨⟨⟨r56, r57, r58, r59, r60, r61, r62, r63, r64, r65⟩, ⟨r78, r79, r80⟩, ⟨r84, r85, r86, r87⟩, ⟨r90, r91, r92, r93, r94, r95, r96, r97⟩, ⟨r99, r101, r103, r104, r105⟩⟩, -⟩ := id hO
  refine ⟨fun j hj => ?_, fun j hj => ?_⟩
  · have x1 := r90 j
    have x2 := r91 j
    have x3 := r93 j (by omega)
    have x4 := r92 j
    omega
  · have x1 := r94 j
    have x2 := r95 j
    have x3 := r97 j (by omega)
    have x4 := r96 j
    omega
theorem wrmR {B : Int} (hO : OKC h B) (p : Nat) : 0 ≤ wrm h p ∧ wrm h p ≤ 600 := wrm_r (hO.2.1.2.2.1 p).1 (hO.2.1.2.1 p).1
theorem CHG_r {B : Int} (hO : OKC h B) {hr nb nh nj np p : Nat} (b8 : nb ≤ 8) (b4 : nh ≤ 4) (bj : nj ≤ (h 12 1).toNat) (bp : np ≤ (h 17 1).toNat) : -1900000 ≤ CHG h hr nb nh nj np p ∧ CHG h hr nb nh nj np p ≤ 1800000 := by
  obtain ⟨⟨⟨r56, r57, r58, r59, r60, r61, r62, r63, r64, r65⟩, ⟨r78, r79, r80⟩, ⟨r84, r85, r86, r87⟩, ⟨r90, r91, r92, r93, r94, r95, r96, r97⟩, ⟨r99, r101, r103, r104, r105⟩⟩, -⟩ := id hO
  have t := tkT_r hO hr p
  have s := sdT_r hO hr p
  have x1 := sm_b (f := htF (h 24) (h 23) (h 25) p) (n := nb) (fun j _ => ht_r p j r101)
  have x2 := sm_b (f := htF (h 28) (h 27) (onH h hr) p) (n := nh) (fun j _ => ht_r p j r105)
  have x3 := sm_b (f := ledJ (h 13) (h 14) (h 15) (wrm h) p) (n := nj) (fun j hj => ledJ_r (lnkJ hO).1 (by omega) (fun q _ => wrmR hO q))
  have x4 := sm_b (f := ledP (h 18) (h 19) (h 20) (h 21) (wrm h) p) (n := np) (fun j hj => ledP_r (lnkJ hO).2 (by omega) (fun q _ => wrmR hO q))
  unfold CHG
  omega
theorem mk_r {wt on : Nat → Int} (k : Nat) (h1 : rgA wt 0 999) : 0 ≤ mkF wt on k ∧ mkF wt on k ≤ 999 := by
  unfold mkF
  have := h1 k
  split <;> omega
theorem CHG_b {hr nb nh nj np p : Nat} : CHG h hr (nb + 1) nh nj np p = CHG h hr nb nh nj np p + htF (h 24) (h 23) (h 25) p nb := by
  unfold CHG; simp only [sm]; omega
theorem CHG_h {hr nb nh nj np p : Nat} : CHG h hr nb (nh + 1) nj np p = CHG h hr nb nh nj np p + htF (h 28) (h 27) (onH h hr) p nh := by
  unfold CHG; simp only [sm]; omega
theorem CHG_j {hr nb nh nj np p : Nat} : CHG h hr nb nh (nj + 1) np p = CHG h hr nb nh nj np p + ledJ (h 13) (h 14) (h 15) (wrm h) p nj := by
  unfold CHG; simp only [sm]; omega
theorem CHG_p {hr nb nh nj np p : Nat} : CHG h hr nb nh nj (np + 1) p = CHG h hr nb nh nj np p + ledP (h 18) (h 19) (h 20) (h 21) (wrm h) p np := by
  unfold CHG; simp only [sm]; omega
set_option maxHeartbeats 4000000 in
theorem c_mB {B : Int} {hr : Nat} (hO : OKC h B) (H : ∀ g, CH h g hr (h 2 0).toNat (h 22 2).toNat 0 0 0 → Q (I 0) g) {g : HP} (hg : CH h g hr (h 2 0).toNat 0 0 0 0) : X (d + 1) 45 0 [some (P 52), some (P 22), none, none] [] g Q := by
  obtain ⟨⟨⟨r56, r57, r58, r59, r60, r61, r62, r63, r64, r65⟩, ⟨r78, r79, r80⟩, ⟨r84, r85, r86, r87⟩, ⟨r90, r91, r92, r93, r94, r95, r96, r97⟩, ⟨r99, r101, r103, r104, r105⟩⟩, ⟨r76, r77, r114, r81, r88, r66, r67⟩, ⟨r102, r100, r106, r51, r52, r53, r54⟩, r120, r122⟩ := id hO
  have F0 : ∀ {g nb nh nj np}, CH h g hr (h 2 0).toNat nb nh nj np → ∀ q, (q ≠ 53 ∧ q ≠ 29 ∧ q ≠ 8 ∧ q ≠ 9 ∧ q ≠ 52 ∧ q ≠ 54 ∧ q ≠ 55) → g q = h q := fun hg q hq => hg.1 q hq.1 hq.2.1 hq.2.2.1 hq.2.2.2.1 hq.2.2.2.2.1 hq.2.2.2.2.2.1 hq.2.2.2.2.2.2
  refine b45a_0 (c_makB0 ?_ (fun x bx => b45a_4 ?_))
  · rw [F0 hg 22 (by decide), F0 hg 26 (by decide), F0 hg 25 (by decide)]
    exact ⟨⟨r51, r52, r53, r54⟩, ⟨r62, r63, r64, r65⟩, r102⟩
  rw [F0 hg 22 (by decide), F0 hg 25 (by decide)] at bx
  have L : ∀ k i : Nat, i + k = (h 22 2).toNat → ∀ g, CH h g hr (h 2 0).toNat i 0 0 0 → X (d + 1) 45 7 [some (P 52), some (P 22), some (I x), some (I (i : Int))] [] g Q := by
    intro k
    induction k with
    | zero =>
      intro i hi g hg
      have e2 : g 22 2 = h 22 2 := by rw [F0 hg 22 (by decide)]
      have ei : i = (h 22 2).toNat := by omega
      subst ei
      exact b45a_7 (br_i (fun _ => H g hg) (fun q => absurd (by rw [e2]; omega) q))
    | succ k ih =>
      intro i hi g hg
      have e2 : g 22 2 = h 22 2 := by rw [F0 hg 22 (by decide)]
      have x23 := r99 i
      have y23 := r100 i (by omega)
      have x24 := r101 i
      have cr := CHG_r hO (hr := hr) (nb := i) (nh := 0) (nj := 0) (np := 0) (p := (h 23 i).toNat) (by omega) (by omega) (by omega) (by omega)
      have ms := sm_b (f := mkF (h 24) (h 25)) (n := i) (fun j _ => mk_r j r101)
      have ec := hg.2.2.2.2 (h 23 i).toNat (by omega)
      have e3 : g 52 3 = sm (mkF (h 24) (h 25)) i + 0 := hg.2.2.2.1.1
      have bi := bx.2 i
      refine b45a_7 (br_i (fun q => absurd q (by rw [e2]; omega)) (fun _ => ?_))
      rw [bit_c bx.1.1 (by have := bx.1.2; omega) (by omega) (by omega), F0 hg 23 (by decide), F0 hg 24 (by decide)]
      simp only [Int.toNat_natCast]
      refine br_i (fun qb => an_i (by omega) (by omega) (an_i (by omega) (by omega) (an_i (by omega) (by omega) (an_i (by omega) (by omega) (an_i (by omega) (by omega) (b45a_61 ?_)))))) (fun qb => b45a_61 ?_)
      · have on : ¬ h 25 i = 0 := (bi.mp (by cases e : bit x i with | true => rfl | false => exact absurd e qb)).2
        rw [w32_n (by omega), ec.2, e3, w32_of (x := CHG h hr i 0 0 0 (h 23 i).toNat + h 24 i) (by omega) (by omega), w32_of (x := sm (mkF (h 24) (h 25)) i + 0 + h 24 i) (by omega) (by omega)]
        refine ih (i + 1) (by omega) _ ⟨fun q h1 h2 h3 h4 h5 h6 h7 => by rw [up_p h5, up_p h6]; exact hg.1 q h1 h2 h3 h4 h5 h6 h7, ?_, ?_, ?_, fun p hp => ?_⟩
        · simp only [up_p (show 53 ≠ 52 by decide), up_p (show 53 ≠ 54 by decide), up_p (show 29 ≠ 52 by decide), up_p (show 29 ≠ 54 by decide), up_p (show 8 ≠ 52 by decide), up_p (show 8 ≠ 54 by decide), up_p (show 9 ≠ 52 by decide), up_p (show 9 ≠ 54 by decide)]
          exact hg.2.1
        · rw [up_i (by decide), up_p (by decide)]; exact hg.2.2.1
        · exact ⟨by rw [up_s]; simp only [sm, mkF, if_pos on]; omega, by rw [up_i (by decide), up_p (by decide)]; exact hg.2.2.2.1.2.1, by rw [up_i (by decide), up_p (by decide)]; exact hg.2.2.2.1.2.2⟩
        · rw [up_p (p := 52) (by decide), up_p (p := 54) (by decide), up_p (p := 52) (by decide), up_st]
          refine ⟨(hg.2.2.2.2 p hp).1, ?_⟩
          rw [CHG_b]
          by_cases e : p = (h 23 i).toNat
          · subst e; rw [st1_s]; unfold htF; rw [if_pos ⟨on, by omega⟩]
          · rw [st1_n e, (hg.2.2.2.2 p hp).2]; unfold htF; rw [if_neg (fun x => e (by omega))]; omega
      · have on : h 25 i = 0 := by
          apply Classical.byContradiction
          intro n
          have := bi.mpr ⟨by omega, n⟩
          rw [this] at qb
          exact qb (by decide)
        rw [w32_n (by omega)]
        refine ih (i + 1) (by omega) g ⟨hg.1, hg.2.1, hg.2.2.1, ?_, fun p hp => ⟨(hg.2.2.2.2 p hp).1, ?_⟩⟩
        · exact ⟨by rw [e3]; simp only [sm, mkF, if_neg (fun x : ¬ h 25 i = 0 => x on)]; omega, hg.2.2.2.1.2⟩
        · rw [CHG_b, (hg.2.2.2.2 p hp).2]; unfold htF; rw [if_neg (fun x => x.1 on)]; omega
  exact L (h 22 2).toNat 0 (by omega) g hg
set_option maxHeartbeats 4000000 in
theorem c_mH {B : Int} {hr : Nat} (hO : OKC h B) (H : ∀ g, CH h g hr (h 2 0).toNat (h 22 2).toNat (h 26 2).toNat 0 0 → Q (I 0) g) {g : HP} (hg : CH h g hr (h 2 0).toNat (h 22 2).toNat 0 0 0) : X (d + 1) 45 0 [some (P 52), some (P 26), none, none] [] g Q := by
  obtain ⟨⟨⟨r56, r57, r58, r59, r60, r61, r62, r63, r64, r65⟩, ⟨r78, r79, r80⟩, ⟨r84, r85, r86, r87⟩, ⟨r90, r91, r92, r93, r94, r95, r96, r97⟩, ⟨r99, r101, r103, r104, r105⟩⟩, ⟨r76, r77, r114, r81, r88, r66, r67⟩, ⟨r102, r100, r106, r51, r52, r53, r54⟩, r120, r122⟩ := id hO
  have F0 : ∀ {g nb nh nj np}, CH h g hr (h 2 0).toNat nb nh nj np → ∀ q, (q ≠ 53 ∧ q ≠ 29 ∧ q ≠ 8 ∧ q ≠ 9 ∧ q ≠ 52 ∧ q ≠ 54 ∧ q ≠ 55) → g q = h q := fun hg q hq => hg.1 q hq.1 hq.2.1 hq.2.2.1 hq.2.2.2.1 hq.2.2.2.2.1 hq.2.2.2.2.2.1 hq.2.2.2.2.2.2
  refine b45b_0 (c_makH0 ?_ (fun x bx => b45b_4 ?_))
  · rw [F0 hg 22 (by decide), F0 hg 26 (by decide), F0 hg 25 (by decide)]
    exact ⟨⟨r51, r52, r53, r54⟩, ⟨r62, r63, r64, r65⟩, r102⟩
  rw [F0 hg 26 (by decide), hg.2.1.2.1] at bx
  have L : ∀ k i : Nat, i + k = (h 26 2).toNat → ∀ g, CH h g hr (h 2 0).toNat (h 22 2).toNat i 0 0 → X (d + 1) 45 7 [some (P 52), some (P 26), some (I x), some (I (i : Int))] [] g Q := by
    intro k
    induction k with
    | zero =>
      intro i hi g hg
      have e2 : g 26 2 = h 26 2 := by rw [F0 hg 26 (by decide)]
      have ei : i = (h 26 2).toNat := by omega
      subst ei
      exact b45b_7 (br_i (fun _ => H g hg) (fun q => absurd (by rw [e2]; omega) q))
    | succ k ih =>
      intro i hi g hg
      have e2 : g 26 2 = h 26 2 := by rw [F0 hg 26 (by decide)]
      have x27 := r103 i
      have y27 := r104 i (by omega)
      have x28 := r105 i
      have cr := CHG_r hO (hr := hr) (nb := (h 22 2).toNat) (nh := i) (nj := 0) (np := 0) (p := (h 27 i).toNat) (by omega) (by omega) (by omega) (by omega)
      have ms := sm_b (f := mkF (h 24) (h 25)) (n := (h 22 2).toNat) (fun j _ => mk_r j r101)
      have ms2 := sm_b (f := mkF (h 28) (onH h hr)) (n := i) (fun j _ => mk_r j r105)
      have ec := hg.2.2.2.2 (h 27 i).toNat (by omega)
      have e3 := hg.2.2.2.1.1
      have bi := bx.2 i
      refine b45b_7 (br_i (fun q => absurd q (by rw [e2]; omega)) (fun _ => ?_))
      rw [bit_c bx.1.1 (by have := bx.1.2; omega) (by omega) (by omega), F0 hg 27 (by decide), F0 hg 28 (by decide)]
      simp only [Int.toNat_natCast]
      refine br_i (fun qb => an_i (by omega) (by omega) (an_i (by omega) (by omega) (an_i (by omega) (by omega) (an_i (by omega) (by omega) (an_i (by omega) (by omega) (b45b_61 ?_)))))) (fun qb => b45b_61 ?_)
      · have on : ¬ onH h hr i = 0 := by
          have q : hS h hr (h 26 2).toNat i = 1 ∨ hS h hr (h 26 2).toNat i = 3 := (bi.mp (by cases e : bit x i with | true => rfl | false => exact absurd e qb)).2
          unfold onH
          rw [if_pos q]; decide
        rw [w32_n (by omega), ec.2, e3, w32_of (x := CHG h hr (h 22 2).toNat i 0 0 (h 27 i).toNat + h 28 i) (by omega) (by omega), w32_of (x := sm (mkF (h 24) (h 25)) (h 22 2).toNat + sm (mkF (h 28) (onH h hr)) i + h 28 i) (by omega) (by omega)]
        refine ih (i + 1) (by omega) _ ⟨fun q h1 h2 h3 h4 h5 h6 h7 => by rw [up_p h5, up_p h6]; exact hg.1 q h1 h2 h3 h4 h5 h6 h7, ?_, ?_, ?_, fun p hp => ?_⟩
        · simp only [up_p (show 53 ≠ 52 by decide), up_p (show 53 ≠ 54 by decide), up_p (show 29 ≠ 52 by decide), up_p (show 29 ≠ 54 by decide), up_p (show 8 ≠ 52 by decide), up_p (show 8 ≠ 54 by decide), up_p (show 9 ≠ 52 by decide), up_p (show 9 ≠ 54 by decide)]
          exact hg.2.1
        · rw [up_i (by decide), up_p (by decide)]; exact hg.2.2.1
        · refine ⟨?_, by rw [up_i (by decide), up_p (by decide)]; exact hg.2.2.2.1.2.1, by rw [up_i (by decide), up_p (by decide)]; exact hg.2.2.2.1.2.2⟩
          rw [up_s]
          have : mkF (h 28) (onH h hr) i = h 28 i := by unfold mkF; rw [if_pos on]
          simp only [sm]; omega
        · rw [up_p (p := 52) (by decide), up_p (p := 54) (by decide), up_p (p := 52) (by decide), up_st]
          refine ⟨(hg.2.2.2.2 p hp).1, ?_⟩
          rw [CHG_h]
          by_cases e : p = (h 27 i).toNat
          · subst e; rw [st1_s]; unfold htF; rw [if_pos ⟨on, by omega⟩]
          · rw [st1_n e, (hg.2.2.2.2 p hp).2]; unfold htF; rw [if_neg (fun x => e (by omega))]; omega
      · have on : onH h hr i = 0 := by
          unfold onH
          rw [if_neg]
          intro n
          have := bi.mpr ⟨by omega, n⟩
          rw [this] at qb
          exact qb (by decide)
        rw [w32_n (by omega)]
        refine ih (i + 1) (by omega) g ⟨hg.1, hg.2.1, hg.2.2.1, ?_, fun p hp => ⟨(hg.2.2.2.2 p hp).1, ?_⟩⟩
        · refine ⟨?_, hg.2.2.2.1.2⟩
          rw [e3]
          have : mkF (h 28) (onH h hr) i = 0 := by unfold mkF; rw [if_neg (fun x => x on)]
          simp only [sm]; omega
        · rw [CHG_h, (hg.2.2.2.2 p hp).2]; unfold htF; rw [if_neg (fun x => x.1 on)]; omega
  exact L (h 26 2).toNat 0 (by omega) g hg
set_option maxHeartbeats 4000000 in
theorem c_ldJ {B : Int} {hr : Nat} (hO : OKC h B) (H : ∀ g, CH h g hr (h 2 0).toNat (h 22 2).toNat (h 26 2).toNat (h 12 1).toNat 0 → Q (I 0) g) {g : HP} (hg : CH h g hr (h 2 0).toNat (h 22 2).toNat (h 26 2).toNat 0 0) : X d 46 0 [some (P 52), some (P 12), some (I 0), none, none, none, none] [] g Q := by
  obtain ⟨⟨⟨r56, r57, r58, r59, r60, r61, r62, r63, r64, r65⟩, ⟨r78, r79, r80⟩, ⟨r84, r85, r86, r87⟩, ⟨r90, r91, r92, r93, r94, r95, r96, r97⟩, ⟨r99, r101, r103, r104, r105⟩⟩, ⟨r76, r77, r114, r81, r88, r66, r67⟩, ⟨r102, r100, r106, r51, r52, r53, r54⟩, r120, r122⟩ := id hO
  have F0 : ∀ {g nb nh nj np}, CH h g hr (h 2 0).toNat nb nh nj np → ∀ q, (q ≠ 53 ∧ q ≠ 29 ∧ q ≠ 8 ∧ q ≠ 9 ∧ q ≠ 52 ∧ q ≠ 54 ∧ q ≠ 55) → g q = h q := fun hg q hq => hg.1 q hq.1 hq.2.1 hq.2.2.1 hq.2.2.2.1 hq.2.2.2.2.1 hq.2.2.2.2.2.1 hq.2.2.2.2.2.2
  have L : ∀ k i : Nat, i + k = (h 12 1).toNat → ∀ g, CH h g hr (h 2 0).toNat (h 22 2).toNat (h 26 2).toNat i 0 → X d 46 2 [some (P 52), some (P 12), some (I 0), some (I (i : Int)), none, none, none] [] g Q := by
    intro k
    induction k with
    | zero =>
      intro i hi g hg
      have e2 : g 12 1 = h 12 1 := by rw [F0 hg 12 (by decide)]
      have ei : i = (h 12 1).toNat := by omega
      subst ei
      exact b46a_2 (br_i (fun _ => H g hg) (fun q => absurd (by rw [e2]; omega) q))
    | succ k ih =>
      intro i hi g hg
      have e2 : g 12 1 = h 12 1 := by rw [F0 hg 12 (by decide)]
      obtain ⟨a0, a1, b0, b1, hne, l0, l1⟩ := (lnkJ hO).1 i (by omega)
      have wa := wrmR hO (h 13 i).toNat
      have wb := wrmR hO (h 14 i).toNat
      have ca := CHG_r hO (hr := hr) (nb := (h 22 2).toNat) (nh := (h 26 2).toNat) (nj := i) (np := 0) (p := (h 13 i).toNat) (by omega) (by omega) (by omega) (by omega)
      have cb := CHG_r hO (hr := hr) (nb := (h 22 2).toNat) (nh := (h 26 2).toNat) (nj := i) (np := 0) (p := (h 14 i).toNat) (by omega) (by omega) (by omega) (by omega)
      have ga := hg.2.2.2.2 (h 13 i).toNat (by omega)
      have gb := hg.2.2.2.2 (h 14 i).toNat (by omega)
      have m1 := mul_ab l0 l1 (x := wrm h (h 13 i).toNat - wrm h (h 14 i).toNat) (by omega) (by omega)
      have nab : (h 14 i).toNat ≠ (h 13 i).toNat := by omega
      have ev : w32 (g 53 (h 13 i).toNat - g 53 (h 14 i).toNat) = wrm h (h 13 i).toNat - wrm h (h 14 i).toNat := by
        rw [hg.2.1.1 _ (by omega), hg.2.1.1 _ (by omega)]; exact w32_of (by omega) (by omega)
      have ST : (∀ p : Nat, p < (h 2 0).toNat → ledJ (h 13) (h 14) (h 15) (wrm h) p i = ledJ (h 13) (h 14) (h 15) (wrm h) p i) → X d 46 64 [some (P 52), some (P 12), some (I 0), some (I (i : Int)), some (I (h 13 i)), some (I (h 14 i)), some (I (wrm h (h 13 i).toNat - wrm h (h 14 i).toNat))] [] g Q := by
        intro hl
        refine b46a_64 (an_i (by omega) (by omega) (an_i (by omega) (by omega) (an_i (by omega) (by omega) (an_i (by omega) (by omega) (an_i (by omega) (by omega) (an_i (by omega) (by omega) (b46a_102 ?_)))))))
        rw [w32_n (by omega), up_i nab, F0 hg 15 (by decide), ga.2, gb.2]
        simp only [Int.toNat_natCast]
        rw [w32_of (x := h 15 i * (wrm h (h 13 i).toNat - wrm h (h 14 i).toNat)) (by omega) (by omega), w32_of (x := CHG h hr (h 22 2).toNat (h 26 2).toNat i 0 (h 13 i).toNat - h 15 i * (wrm h (h 13 i).toNat - wrm h (h 14 i).toNat)) (by omega) (by omega), w32_of (x := CHG h hr (h 22 2).toNat (h 26 2).toNat i 0 (h 14 i).toNat + h 15 i * (wrm h (h 13 i).toNat - wrm h (h 14 i).toNat)) (by omega) (by omega)]
        refine ih (i + 1) (by omega) _ ⟨fun q h1 h2 h3 h4 h5 h6 h7 => by rw [up_p h6, up_p h6]; exact hg.1 q h1 h2 h3 h4 h5 h6 h7, ?_, ?_, ?_, fun p hp => ?_⟩
        · simp only [up_p (show 53 ≠ 54 by decide), up_p (show 29 ≠ 54 by decide), up_p (show 8 ≠ 54 by decide), up_p (show 9 ≠ 54 by decide)]
          exact hg.2.1
        · rw [up_p (by decide), up_p (by decide)]; exact hg.2.2.1
        · rw [up_p (by decide), up_p (by decide)]; exact hg.2.2.2.1
        · rw [up_p (p := 54) (q := 55) (by decide), up_p (p := 54) (q := 55) (by decide), up_st, up_st]
          refine ⟨(hg.2.2.2.2 p hp).1, ?_⟩
          rw [CHG_j, hl p hp]
          unfold ledJ
          by_cases e : p = (h 14 i).toNat
          · subst e; rw [st1_s, if_pos (by omega)]
          · rw [st1_n e, if_neg (by omega)]
            by_cases e2 : p = (h 13 i).toNat
            · subst e2; rw [st1_s, if_pos (by omega)]; omega
            · rw [st1_n e2, if_neg (by omega), (hg.2.2.2.2 p hp).2]; omega
      refine b46a_2 (br_i (fun q => absurd q (by rw [e2]; omega)) (fun _ => ?_))
      rw [F0 hg 13 (by decide), F0 hg 14 (by decide)]
      simp only [Int.toNat_natCast]
      rw [ev]
      exact an_i (by omega) (by omega) (an_i (by omega) (by omega) (an_i (by omega) (by omega) (an_i (by omega) (by omega) (br_i (fun _ => ST (fun _ _ => rfl)) (fun q => absurd True.intro q)))))
  exact b46a_0 (L (h 12 1).toNat 0 (by omega) g hg)
set_option maxHeartbeats 4000000 in
theorem c_ldP {B : Int} {hr : Nat} (hO : OKC h B) (H : ∀ g, CH h g hr (h 2 0).toNat (h 22 2).toNat (h 26 2).toNat (h 12 1).toNat (h 17 1).toNat → Q (I 0) g) {g : HP} (hg : CH h g hr (h 2 0).toNat (h 22 2).toNat (h 26 2).toNat (h 12 1).toNat 0) : X d 46 0 [some (P 52), some (P 17), some (I 1), none, none, none, none] [] g Q := by
  obtain ⟨⟨⟨r56, r57, r58, r59, r60, r61, r62, r63, r64, r65⟩, ⟨r78, r79, r80⟩, ⟨r84, r85, r86, r87⟩, ⟨r90, r91, r92, r93, r94, r95, r96, r97⟩, ⟨r99, r101, r103, r104, r105⟩⟩, ⟨r76, r77, r114, r81, r88, r66, r67⟩, ⟨r102, r100, r106, r51, r52, r53, r54⟩, r120, r122⟩ := id hO
  have F0 : ∀ {g nb nh nj np}, CH h g hr (h 2 0).toNat nb nh nj np → ∀ q, (q ≠ 53 ∧ q ≠ 29 ∧ q ≠ 8 ∧ q ≠ 9 ∧ q ≠ 52 ∧ q ≠ 54 ∧ q ≠ 55) → g q = h q := fun hg q hq => hg.1 q hq.1 hq.2.1 hq.2.2.1 hq.2.2.2.1 hq.2.2.2.2.1 hq.2.2.2.2.2.1 hq.2.2.2.2.2.2
  have L : ∀ k i : Nat, i + k = (h 17 1).toNat → ∀ g, CH h g hr (h 2 0).toNat (h 22 2).toNat (h 26 2).toNat (h 12 1).toNat i → X d 46 2 [some (P 52), some (P 17), some (I 1), some (I (i : Int)), none, none, none] [] g Q := by
    intro k
    induction k with
    | zero =>
      intro i hi g hg
      have e2 : g 17 1 = h 17 1 := by rw [F0 hg 17 (by decide)]
      have ei : i = (h 17 1).toNat := by omega
      subst ei
      exact b46b_2 (br_i (fun _ => H g hg) (fun q => absurd (by rw [e2]; omega) q))
    | succ k ih =>
      intro i hi g hg
      have e2 : g 17 1 = h 17 1 := by rw [F0 hg 17 (by decide)]
      obtain ⟨a0, a1, b0, b1, hne, l0, l1⟩ := (lnkJ hO).2 i (by omega)
      have wa := wrmR hO (h 18 i).toNat
      have wb := wrmR hO (h 19 i).toNat
      have ca := CHG_r hO (hr := hr) (nb := (h 22 2).toNat) (nh := (h 26 2).toNat) (nj := (h 12 1).toNat) (np := i) (p := (h 18 i).toNat) (by omega) (by omega) (by omega) (by omega)
      have cb := CHG_r hO (hr := hr) (nb := (h 22 2).toNat) (nh := (h 26 2).toNat) (nj := (h 12 1).toNat) (np := i) (p := (h 19 i).toNat) (by omega) (by omega) (by omega) (by omega)
      have ga := hg.2.2.2.2 (h 18 i).toNat (by omega)
      have gb := hg.2.2.2.2 (h 19 i).toNat (by omega)
      have m1 := mul_ab l0 l1 (x := wrm h (h 18 i).toNat - wrm h (h 19 i).toNat) (by omega) (by omega)
      have nab : (h 19 i).toNat ≠ (h 18 i).toNat := by omega
      have ev : w32 (g 53 (h 18 i).toNat - g 53 (h 19 i).toNat) = wrm h (h 18 i).toNat - wrm h (h 19 i).toNat := by
        rw [hg.2.1.1 _ (by omega), hg.2.1.1 _ (by omega)]; exact w32_of (by omega) (by omega)
      have ST : (∀ p : Nat, p < (h 2 0).toNat → ledP (h 18) (h 19) (h 20) (h 21) (wrm h) p i = ledJ (h 18) (h 19) (h 20) (wrm h) p i) → X d 46 64 [some (P 52), some (P 17), some (I 1), some (I (i : Int)), some (I (h 18 i)), some (I (h 19 i)), some (I (wrm h (h 18 i).toNat - wrm h (h 19 i).toNat))] [] g Q := by
        intro hl
        refine b46b_64 (an_i (by omega) (by omega) (an_i (by omega) (by omega) (an_i (by omega) (by omega) (an_i (by omega) (by omega) (an_i (by omega) (by omega) (an_i (by omega) (by omega) (b46b_102 ?_)))))))
        rw [w32_n (by omega), up_i nab, F0 hg 20 (by decide), ga.2, gb.2]
        simp only [Int.toNat_natCast]
        rw [w32_of (x := h 20 i * (wrm h (h 18 i).toNat - wrm h (h 19 i).toNat)) (by omega) (by omega), w32_of (x := CHG h hr (h 22 2).toNat (h 26 2).toNat (h 12 1).toNat i (h 18 i).toNat - h 20 i * (wrm h (h 18 i).toNat - wrm h (h 19 i).toNat)) (by omega) (by omega), w32_of (x := CHG h hr (h 22 2).toNat (h 26 2).toNat (h 12 1).toNat i (h 19 i).toNat + h 20 i * (wrm h (h 18 i).toNat - wrm h (h 19 i).toNat)) (by omega) (by omega)]
        refine ih (i + 1) (by omega) _ ⟨fun q h1 h2 h3 h4 h5 h6 h7 => by rw [up_p h6, up_p h6]; exact hg.1 q h1 h2 h3 h4 h5 h6 h7, ?_, ?_, ?_, fun p hp => ?_⟩
        · simp only [up_p (show 53 ≠ 54 by decide), up_p (show 29 ≠ 54 by decide), up_p (show 8 ≠ 54 by decide), up_p (show 9 ≠ 54 by decide)]
          exact hg.2.1
        · rw [up_p (by decide), up_p (by decide)]; exact hg.2.2.1
        · rw [up_p (by decide), up_p (by decide)]; exact hg.2.2.2.1
        · rw [up_p (p := 54) (q := 55) (by decide), up_p (p := 54) (q := 55) (by decide), up_st, up_st]
          refine ⟨(hg.2.2.2.2 p hp).1, ?_⟩
          rw [CHG_p, hl p hp]
          unfold ledJ
          by_cases e : p = (h 19 i).toNat
          · subst e; rw [st1_s, if_pos (by omega)]
          · rw [st1_n e, if_neg (by omega)]
            by_cases e2 : p = (h 18 i).toNat
            · subst e2; rw [st1_s, if_pos (by omega)]; omega
            · rw [st1_n e2, if_neg (by omega), (hg.2.2.2.2 p hp).2]; omega
      have SK : (∀ p : Nat, p < (h 2 0).toNat → ledP (h 18) (h 19) (h 20) (h 21) (wrm h) p i = 0) → X d 46 102 [some (P 52), some (P 17), some (I 1), some (I (i : Int)), some (I (h 18 i)), some (I (h 19 i)), some (I (wrm h (h 18 i).toNat - wrm h (h 19 i).toNat))] [] g Q := by
        intro hz
        refine b46b_102 ?_
        rw [w32_n (by omega)]
        refine ih (i + 1) (by omega) g ⟨hg.1, hg.2.1, hg.2.2.1, hg.2.2.2.1, fun p hp => ⟨(hg.2.2.2.2 p hp).1, ?_⟩⟩
        rw [CHG_p, hz p hp, (hg.2.2.2.2 p hp).2]; omega
      refine b46b_2 (br_i (fun q => absurd q (by rw [e2]; omega)) (fun _ => ?_))
      rw [F0 hg 18 (by decide), F0 hg 19 (by decide), F0 hg 21 (by decide)]
      simp only [Int.toNat_natCast]
      rw [ev]
      refine an_i (by omega) (by omega) (an_i (by omega) (by omega) (an_i (by omega) (by omega) (an_i (by omega) (by omega) (br_i (fun q => absurd q (by decide)) (fun _ => br_i (fun q => SK (fun p hp => ?_)) (fun q => an_i (by omega) (by omega) (br_i (fun q2 => ST (fun p hp => ?_)) (fun q2 => SK (fun p hp => ?_)))))))))
      · unfold ledP
        split
        · rfl
        · split
          · next q3 =>
            have l00 : h 20 i = 0 := by
              apply Classical.byContradiction
              intro n
              have := Int.mul_neg_of_pos_of_neg (show 0 < h 20 i by omega) q
              omega
            unfold ledJ
            rw [l00]
            simp
          · rfl
      · unfold ledP
        rw [if_neg (fun x => x q2), if_pos (Int.mul_nonneg l0 (by omega))]
      · unfold ledP
        rw [if_pos q2]
  exact b46b_0 (L (h 17 1).toNat 0 (by omega) g hg)
def mx0 (v : Int) : Int := if 0 < v then v else 0
def CHF (h : HP) (hr p : Nat) : Int := CHG h hr (h 22 2).toNat (h 26 2).toNat (h 12 1).toNat (h 17 1).toNat p
def snC (h : HP) (hr p : Nat) : Int := if 0 ≤ h 7 p + CHF h hr p then sdT h hr p else mx0 (sdT h hr p + (h 7 p + CHF h hr p))
def h7S (h : HP) (hr i : Nat) : Nat → Int := fun p => if p < i then mx0 (h 7 p + CHF h hr p) else h 7 p
theorem h7S_s {hr i : Nat} : st1 (h7S h hr i) i (mx0 (h 7 i + CHF h hr i)) = h7S h hr (i + 1) := by
  funext k
  by_cases e : k = i
  · subst e; rw [st1_s]; unfold h7S; rw [if_pos (by omega)]
  · rw [st1_n e]; unfold h7S
    by_cases q : k < i
    · rw [if_pos q, if_pos (by omega)]
    · rw [if_neg q, if_neg (by omega)]
/-- behind a pass of the class -/
def PAS (h g : HP) (hr i : Nat) : Prop := (∀ q, q ≠ 7 → q ≠ 53 → q ≠ 29 → q ≠ 8 → q ≠ 9 → q ≠ 52 → q ≠ 54 → q ≠ 55 → g q = h q) ∧ (g 7 = h7S h hr i ∧ g 29 = hS h hr (h 26 2).toNat ∧ g 8 = hF h (h 8) hr (h 2 0).toNat ∧ g 9 = hF h (h 9) hr (h 2 0).toNat) ∧ (g 52 2 = sm (tkT h hr) (h 2 0).toNat ∧ g 52 3 = sm (mkF (h 24) (h 25)) (h 22 2).toNat + sm (mkF (h 28) (onH h hr)) (h 26 2).toNat ∧ g 52 4 = sm (snC h hr) i ∧ g 52 5 = h 52 5 ∧ g 52 6 = h 52 6) ∧ ∀ p, p < (h 2 0).toNat → g 55 p = sdT h hr p ∧ g 54 p = CHF h hr p
theorem mx0_r {v b : Int} (b0 : 0 ≤ b) (h1 : v ≤ b) : 0 ≤ mx0 v ∧ mx0 v ≤ b := by
  unfold mx0
  split <;> omega
theorem snC_r {B : Int} (hO : OKC h B) (hr p : Nat) : 0 ≤ snC h hr p ∧ snC h hr p ≤ 199980 := by
  have s := sdT_r hO hr p
  unfold snC
  split
  · exact s
  · exact mx0_r (by omega) (by omega)
theorem z224m {v : Int} {g : HP} (H : Q (I (mx0 v)) g) : X d 224 0 [some (I 0), some (I v)] [] g Q := by
  unfold mx0 at H
  refine z224 (br_i (fun q => ?_) (fun q => ?_))
  · rw [if_pos q] at H; exact H
  · rw [if_neg q] at H; exact H
set_option maxHeartbeats 4000000 in
theorem c_sett {B : Int} {hr : Nat} (hO : OKC h B) (hB : B ≤ 2000000000) (H : ∀ g, PAS h g hr (h 2 0).toNat → Q (I 0) g) {g : HP} (hg : CH h g hr (h 2 0).toNat (h 22 2).toNat (h 26 2).toNat (h 12 1).toNat (h 17 1).toNat) : X (d + 1) 47 0 [some (P 52), none, none] [] g Q := by
  obtain ⟨⟨⟨r56, r57, r58, r59, r60, r61, r62, r63, r64, r65⟩, ⟨r78, r79, r80⟩, ⟨r84, r85, r86, r87⟩, ⟨r90, r91, r92, r93, r94, r95, r96, r97⟩, ⟨r99, r101, r103, r104, r105⟩⟩, ⟨r76, r77, r114, r81, r88, r66, r67⟩, ⟨r102, r100, r106, r51, r52, r53, r54⟩, r120, r122⟩ := id hO
  have L : ∀ k i : Nat, i + k = (h 2 0).toNat → ∀ g, PAS h g hr i → X (d + 1) 47 7 [some (P 52), some (I (i : Int)), none] [] g Q := by
    intro k
    induction k with
    | zero =>
      intro i hi g hg
      have e2 : g 2 0 = h 2 0 := by rw [hg.1 2 (by decide) (by decide) (by decide) (by decide) (by decide) (by decide) (by decide) (by decide)]
      have ei : i = (h 2 0).toNat := by omega
      subst ei
      exact b47_7 (br_i (fun _ => H g hg) (fun q => absurd (by rw [e2]; omega) q))
    | succ k ih =>
      intro i hi g hg
      have e2 : g 2 0 = h 2 0 := by rw [hg.1 2 (by decide) (by decide) (by decide) (by decide) (by decide) (by decide) (by decide) (by decide)]
      have e7 : g 7 i = h 7 i := by rw [hg.2.1.1]; unfold h7S; rw [if_neg (by omega)]
      have x7 := r114 i
      have ge := hg.2.2.2 i (by omega)
      have cr : -1900000 ≤ CHF h hr i ∧ CHF h hr i ≤ 1800000 := CHG_r hO (by omega) (by omega) (Nat.le_refl _) (Nat.le_refl _)
      have sr := sdT_r hO hr i
      have nr := snC_r hO hr i
      have ns := sm_b (f := snC h hr) (n := i) (fun j _ => snC_r hO hr j)
      have N : ∀ v, v = snC h hr i → X (d + 1) 47 71 [some (P 52), some (I (i : Int)), some (I (h 7 i + CHF h hr i))] [I v, I (g 52 4), P 52] g Q := by
        intro v hv
        subst hv
        refine b47_71 (z224m (b47_91 (an_i (by omega) (by omega) ?_)))
        rw [w32_n (by omega), hg.2.2.1.2.2.1, w32_of (x := sm (snC h hr) i + snC h hr i) (by omega) (by omega)]
        simp only [Int.toNat_natCast]
        refine ih (i + 1) (by omega) _ ⟨fun q h1 h2 h3 h4 h5 h6 h7 h8 => by rw [up_p h1, up_p h6]; exact hg.1 q h1 h2 h3 h4 h5 h6 h7 h8, ⟨?_, ?_, ?_, ?_⟩, ⟨?_, ?_, ?_, ?_, ?_⟩, ?_⟩
        · rw [up_st, up_p (by decide), hg.2.1.1]; exact h7S_s
        · rw [up_p (by decide), up_p (by decide)]; exact hg.2.1.2.1
        · rw [up_p (by decide), up_p (by decide)]; exact hg.2.1.2.2.1
        · rw [up_p (by decide), up_p (by decide)]; exact hg.2.1.2.2.2
        · rw [up_p (by decide), up_i (by decide)]; exact hg.2.2.1.1
        · rw [up_p (by decide), up_i (by decide)]; exact hg.2.2.1.2.1
        · rw [up_p (by decide), up_s]; rfl
        · rw [up_p (by decide), up_i (by decide)]; exact hg.2.2.1.2.2.2.1
        · rw [up_p (by decide), up_i (by decide)]; exact hg.2.2.1.2.2.2.2
        · rw [up_p (p := 7) (q := 55) (by decide), up_p (p := 52) (q := 55) (by decide), up_p (p := 7) (q := 54) (by decide), up_p (p := 52) (q := 54) (by decide)]; exact hg.2.2.2
      refine b47_7 (br_i (fun q => absurd q (by rw [e2]; omega)) (fun _ => an_i (by omega) (by omega) (an_i (by omega) (by omega) ?_)))
      simp only [Int.toNat_natCast]
      rw [e7, ge.1, ge.2, w32_of (x := h 7 i + CHF h hr i) (by omega) (by omega)]
      refine br_i (fun q => an_i (by omega) (by omega) (N _ ?_)) (fun q => an_i (by omega) (by omega) ?_)
      · unfold snC; rw [if_pos q]
      · rw [w32_of (x := sdT h hr i + (h 7 i + CHF h hr i)) (by omega) (by omega)]
        refine z224m (b47_62 (N _ ?_))
        unfold snC; rw [if_neg q]
  refine b47_0 (L (h 2 0).toNat 0 (by omega) _ ⟨fun q h1 h2 h3 h4 h5 h6 h7 h8 => by rw [up_p h6]; exact hg.1 q h2 h3 h4 h5 h6 h7 h8, ⟨?_, ?_, ?_, ?_⟩, ⟨?_, ?_, ?_, ?_, ?_⟩, ?_⟩)
  · rw [up_p (by decide), hg.1 7 (by decide) (by decide) (by decide) (by decide) (by decide) (by decide) (by decide)]
    funext p
    unfold h7S
    rw [if_neg (by omega)]
  · rw [up_p (by decide)]; exact hg.2.1.2.1
  · rw [up_p (by decide)]; exact hg.2.1.2.2.1
  · rw [up_p (by decide)]; exact hg.2.1.2.2.2
  · rw [up_i (by decide)]; exact hg.2.2.1
  · rw [up_i (by decide)]; exact hg.2.2.2.1.1
  · rw [up_s]; rfl
  · rw [up_i (by decide)]; exact hg.2.2.2.1.2.1
  · rw [up_i (by decide)]; exact hg.2.2.2.1.2.2
  · rw [up_p (p := 52) (q := 55) (by decide), up_p (p := 52) (q := 54) (by decide)]; exact hg.2.2.2.2
/-- a pass of the class -/
theorem c_pass {B : Int} {hr : Nat} (hr1 : hr < 12) (hO : OKC h B) (hB : B ≤ 2000000000) (H : ∀ g, PAS h g hr (h 2 0).toNat → Q (I 0) g) : X (d + 4) 42 0 [some (P 52), some (I (hr : Int)), none] [] h Q := by
  obtain ⟨⟨⟨r56, r57, r58, r59, r60, r61, r62, r63, r64, r65⟩, ⟨r78, r79, r80⟩, ⟨r84, r85, r86, r87⟩, ⟨r90, r91, r92, r93, r94, r95, r96, r97⟩, ⟨r99, r101, r103, r104, r105⟩⟩, ⟨r76, r77, r114, r81, r88, r66, r67⟩, ⟨r102, r100, r106, r51, r52, r53, r54⟩, r120, r122⟩ := id hO
  refine c_warm r56 r57 r76 (fun j => ⟨(r114 j).1, by have := (r114 j).2; omega⟩) (fun g f e => c_heed hr1 hO (fun g2 h2 => b42_44 (c_exch hr1 hO (fun g3 h3 => c_mB hO (fun g4 h4 => b44_144 (c_mH hO (fun g5 h5 => b44_155 (b42_49 (c_ldJ hO (fun g6 h6 => b42_61 (c_ldP hO (fun g7 h7 => b42_73 (c_sett hO hB (fun g8 h8 => b42_77 (H g8 h8)) h7)) h6)) h5))) h4)) h3) h2)) ⟨fun q h1 _ _ _ => f q h1, e, ?_, ?_, ?_⟩)
  · rw [f 29 (by decide)]; funext k; exact (hS_i (by omega)).symm
  · rw [f 8 (by decide)]; funext k; exact (hF_i (by omega)).symm
  · rw [f 9 (by decide)]; funext k; exact (hF_i (by omega)).symm
end P64
