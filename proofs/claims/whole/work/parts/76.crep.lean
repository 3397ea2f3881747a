/-! repeat: the class -/
section P76
variable {d : Nat} {h g k S S' : HP} {Q : PV → HP → Prop} {s : Nat}
def SAM (h : HP) (s e r : Nat) : Prop := (∀ j, j < 8 → EVO h s (12 * e) 7 j = EVO h s (12 * r) 7 j) ∧ pck (fdC (EVO h s (12 * e))) 12 = pck (fdC (EVO h s (12 * r))) 12
def REP (h : HP) (s r e : Nat) : Prop := (1 ≤ r ∧ r ≤ 60 ∧ e < r) ∧ SAM h s e r ∧ (∀ e', e' < e → ¬ SAM h s e' r) ∧ ∀ r', r' < r → ∀ e', e' < r' → ¬ SAM h s e' r'
def NRP (h : HP) (s n : Nat) : Prop := ∀ r, r ≤ n → ∀ e, e < r → ¬ SAM h s e r
theorem REP_u {r e r' e' : Nat} (a : REP h s r e) (b : REP h s r' e') : r = r' ∧ e = e' := by
  have hr : r = r' := by
    rcases Nat.lt_trichotomy r r' with q | q | q
    · exact absurd a.2.1 (b.2.2.2 r q e a.1.2.2)
    · exact q
    · exact absurd b.2.1 (a.2.2.2 r' q e' b.1.2.2)
  subst hr
  refine ⟨rfl, ?_⟩
  rcases Nat.lt_trichotomy e e' with q | q | q
  · exact absurd a.2.1 (b.2.2.1 e q)
  · exact q
  · exact absurd b.2.1 (a.2.2.1 e' q)
theorem REP_n {r e : Nat} (a : REP h s r e) (b : NRP h s 60) : False := b r a.1.2.1 e a.1.2.2 a.2.1
set_option maxHeartbeats 4000000 in
theorem c_same {e r : Nat} (e60 : e ≤ 60) (r60 : r ≤ 60) (k1 : KR g e S) (k2 : KR g r S') (H1 : ((∀ j, j < 8 → S 7 j = S' 7 j) ∧ pck (fdC S) 12 = pck (fdC S') 12) → Q (I 1) g) (H0 : ¬ ((∀ j, j < 8 → S 7 j = S' 7 j) ∧ pck (fdC S) 12 = pck (fdC S') 12) → Q (I 0) g) : X d 50 0 [some (P 52), some (I ((9 * e : Nat) : Int)), some (I ((9 * r : Nat) : Int)), none] [] g Q := by
  have L : ∀ m i : Nat, i + m = 9 → (∀ j, j < i → g 56 (9 * e + j) = g 56 (9 * r + j)) → X d 50 2 [some (P 52), some (I ((9 * e : Nat) : Int)), some (I ((9 * r : Nat) : Int)), some (I (i : Int))] [] g Q := by
    intro m
    induction m with
    | zero =>
      intro i hi hj
      have ei : i = 9 := by omega
      subst ei
      refine b50_2 (br_i (fun _ => H1 ⟨fun j h8 => ?_, ?_⟩) (fun q => absurd (by omega) q))
      · rw [← k1.1 j h8, ← k2.1 j h8]; exact hj j (by omega)
      · rw [← k1.2, ← k2.2]; exact hj 8 (by decide)
    | succ m ih =>
      intro i hi hj
      have e1 : w32 (((9 * e : Nat) : Int) + (i : Int)) = ((9 * e + i : Nat) : Int) := by rw [w32_of (by omega) (by omega)]; omega
      have e2 : w32 (((9 * r : Nat) : Int) + (i : Int)) = ((9 * r + i : Nat) : Int) := by rw [w32_of (by omega) (by omega)]; omega
      refine b50_2 (br_i (fun q => absurd q (by omega)) (fun _ => ?_))
      rw [e1, e2]
      simp only [Int.toNat_natCast]
      refine an_i (by omega) (by omega) (an_i (by omega) (by omega) (br_i (fun q => ?_) (fun q => H0 (fun x => q ?_))))
      · rw [w32_n (by omega)]
        refine ih (i + 1) (by omega) (fun j hj2 => ?_)
        by_cases ej : j = i
        · subst ej; exact q
        · exact hj j (by omega)
      · by_cases e8 : i = 8
        · subst e8; rw [k1.2, k2.2]; exact x.2
        · rw [k1.1 i (by omega), k2.1 i (by omega)]; exact x.1 i (by omega)
  exact b50_0 (L 9 0 rfl (fun j hj => absurd hj (by omega)))
theorem c_alk {r : Nat} (r60 : r ≤ 60) (hK : ∀ e, e ≤ r → KR g e (EVO h s (12 * e))) (H1 : ∀ e : Nat, e < r → SAM h s e r → (∀ e', e' < e → ¬ SAM h s e' r) → Q (I (e : Int)) g) (H0 : (∀ e', e' < r → ¬ SAM h s e' r) → Q (I (-1)) g) : X (d + 1) 49 0 [some (P 52), some (I (r : Int)), none] [] g Q := by
  have L : ∀ m i : Nat, i + m = r → (∀ e', e' < i → ¬ SAM h s e' r) → X (d + 1) 49 2 [some (P 52), some (I (r : Int)), some (I (i : Int))] [] g Q := by
    intro m
    induction m with
    | zero =>
      intro i hi hn
      have ei : i = r := by omega
      subst ei
      exact b49_2 (br_i (fun _ => H0 hn) (fun q => absurd (by omega) q))
    | succ m ih =>
      intro i hi hn
      have e1 : w32 ((i : Int) * 9) = ((9 * i : Nat) : Int) := by rw [w32_of (by omega) (by omega)]; omega
      have e2 : w32 ((r : Int) * 9) = ((9 * r : Nat) : Int) := by rw [w32_of (by omega) (by omega)]; omega
      refine b49_2 (br_i (fun q => absurd q (by omega)) (fun _ => ?_))
      rw [e1, e2]
      refine c_same (by omega) r60 (hK i (by omega)) (hK r (Nat.le_refl _)) (fun q => b49_19 (br_i (fun x => absurd x (by decide)) (fun _ => H1 i (by omega) q hn))) (fun q => b49_19 (br_i (fun _ => ?_) (fun x => absurd rfl x)))
      rw [w32_n (by omega)]
      refine ih (i + 1) (by omega) (fun e' he => ?_)
      by_cases ee : e' = i
      · subst ee; exact q
      · exact hn e' (by omega)
  exact b49_0 (L r 0 (by omega) (fun e' he => absurd he (by omega)))
/-- behind t passes on trial, r rows kept -/
def CQ (h g : HP) (s t r : Nat) : Prop := AG g (EVO h s t) ∧ (∀ q, ¬ (52 ≤ q ∧ q ≤ 56) → q ≠ 7 → q ≠ 8 → q ≠ 9 → q ≠ 29 → g q = h q) ∧ ∀ e, e < r → KR g e (EVO h s (12 * e))
theorem KR_56 {r : Nat} (e : k 56 = g 56) (H : KR g r S) : KR k r S := by
  unfold KR at *
  rw [e]
  exact H
theorem KR_c {r : Nat} (e7 : S 7 = S' 7) (e8 : S 8 = S' 8) (e29 : S 29 = S' 29) (H : KR g r S) : KR g r S' := by
  have : fdC S = fdC S' := by
    funext i
    unfold fdC
    rw [e8, e29]
  unfold KR at *
  rw [← e7, ← this]
  exact H
theorem SOK_a (ha : AG g S) (hS : SOK S) : SOK g := by
  unfold SOK at *
  rw [AG_q ha (q := 29) (by decide), AG_q ha (q := 8) (by decide), AG_q ha (q := 9) (by decide)]
  exact hS
theorem EVO_s {B : Int} (hO : OKC h B) (hB : 2000000 ≤ B) : ∀ i, STB h (EVO h s i)
  | 0 => STB_r h
  | i + 1 => STB_n (EVO_O hO hB i) (EVO_s hO hB i)
/-- heats and states back as they were: nothing has changed -/
theorem RS_scr {g' : HP} (fg : ∀ q, ¬ (52 ≤ q ∧ q ≤ 56) → q ≠ 7 → q ≠ 8 → q ≠ 9 → q ≠ 29 → g q = h q) (f : ∀ q, q ≠ 7 → q ≠ 8 → q ≠ 9 → q ≠ 29 → g' q = g q) (e7 : g' 7 = h 7) (e8 : g' 8 = h 8) (e9 : g' 9 = h 9) (e29 : g' 29 = h 29) : SCR h g' ∧ ∀ q, ¬ (52 ≤ q ∧ q ≤ 56) → g' q = h q := by
  have A : ∀ q, ¬ (52 ≤ q ∧ q ≤ 56) → g' q = h q := by
    intro q hq
    by_cases c7 : q = 7
    · subst c7; exact e7
    by_cases c8 : q = 8
    · subst c8; exact e8
    by_cases c9 : q = 9
    · subst c9; exact e9
    by_cases c29 : q = 29
    · subst c29; exact e29
    rw [f q c7 c8 c9 c29, fg q hq c7 c8 c9 c29]
  exact ⟨⟨fun q hq => A q (by omega), fun x _ => by rw [A 69 (by decide)]⟩, A⟩
set_option maxHeartbeats 4000000 in
theorem c_rep {v2 : Int} (hR : R h) (es : s = (h 0 8).toNat) (H1 : ∀ (r e : Nat) g, REP h s r e → SCR h g → (∀ q, ¬ (52 ≤ q ∧ q ≤ 56) → g q = h q) → Q (I (if v2 = 0 then (e : Int) else (r : Int))) g) (H0 : NRP h s 60 → ∀ g, SCR h g → (∀ q, ¬ (52 ≤ q ∧ q ≤ 56) → g q = h q) → Q (I (-9)) g) : X (d + 5) 48 0 [some (P 52), some (I ((s % 12 : Nat) : Int)), some (I v2), none, none, none] [] h Q := by
  have hO := OKC_of hR
  have t01 : 0 ≤ h 0 8 ∧ h 0 8 ≤ 9999 := by
    obtain ⟨⟨r1, r2, r3, r4, r5, r6, r7, r8⟩, ⟨r9, r10, r11, r12, r13⟩, ⟨r14, r15, r16, r17, r18, r19, r20⟩, ⟨r21, r22, r23, r24, r25, r26⟩, ⟨r27, r28, r29, r30, r31⟩, ⟨r32, r33⟩, ⟨r34, r35, r36, r37, r38, r39, r40, r41, r42, r43, r44, r45⟩, ⟨r46, r47, r48⟩, ⟨r49, r50, r51, r52, r53, r54, r55⟩, ⟨r56, r57, r58, r59, r60, r61, r62, r63, r64, r65⟩, ⟨r66, r67, r68, r69, r70, r71, r72, r73, r74, r75⟩, ⟨r76, r77, r78, r79, r80, r81, r82, r83⟩, ⟨r84, r85, r86, r87, r88, r89⟩, ⟨r90, r91, r92, r93, r94, r95, r96, r97, r98⟩, ⟨r99, r100, r101, r102, r103, r104, r105, r106⟩, ⟨r107, r108, r109, r110, r111, r112, r113⟩, ⟨r114, r115, r116, r117, r118, r119, r120, r121, r122, r123⟩⟩ := id hR
    exact ⟨r68, r69⟩
  have EX : ∀ (g : HP) (t r : Nat) (v3 v4 : Int), 1 ≤ r → CQ h g s t r → (∀ g, SCR h g → (∀ q, ¬ (52 ≤ q ∧ q ≤ 56) → g q = h q) → Q (I v3) g) → X (d + 5) 48 88 [some (P 52), some (I ((s % 12 : Nat) : Int)), some (I v2), some (I v3), some (I v4), none] [] g Q := by
    intro g t r v3 v4 r1 hg HQ
    have hOt := EVO_O (s := s) hO (by omega) t
    refine b48_88 (c_rsto (d := d + 3) (r := 0) (S := h) (by decide) (SOK_a hg.1 (SOK_O hOt)) (SOK_O hO) (STB_c (STB_a (EVO_s hO (by omega) t) hg.1) (STB_r h)) (hg.2.2 0 (by omega)) (fun g' f e7 e8 e9 e29 => b48_93 ?_))
    have := RS_scr hg.2.1 f e7 e8 e9 e29
    exact HQ g' this.1 this.2
  have L : ∀ m r : Nat, r + m = 61 → 1 ≤ r → ∀ g, CQ h g s (12 * (r - 1)) r → NRP h s (r - 1) → X (d + 5) 48 11 [some (P 52), some (I ((s % 12 : Nat) : Int)), some (I v2), some (I (-9)), some (I (r : Int)), none] [] g Q := by
    intro m
    induction m with
    | zero =>
      intro r hr r1 g hg hn
      have er : r = 61 := by omega
      subst er
      exact b48_11 (br_i (fun _ => EX g _ 61 _ _ (by decide) hg (H0 hn)) (fun q => absurd (by omega) q))
    | succ m ih =>
      intro r hr r1 g hg hn
      refine b48_11 (br_i (fun q => absurd q (by omega)) (fun _ => br_i (fun q => absurd rfl q) (fun _ => ?_)))
      -- twelve passes
      have LP : ∀ n i : Nat, i + n = 12 → ∀ g, CQ h g s (12 * (r - 1) + i) r → X (d + 5) 48 27 [some (P 52), some (I ((s % 12 : Nat) : Int)), some (I v2), some (I (-9)), some (I (r : Int)), some (I (i : Int))] [] g Q := by
        intro n
        induction n with
        | zero =>
          intro i hi g hg
          have ei : i = 12 := by omega
          subst ei
          have et : 12 * (r - 1) + 12 = 12 * r := by omega
          rw [et] at hg
          have hOt := EVO_O (s := s) hO (by omega) (12 * r)
          refine b48_27 (br_i (fun _ => c_keep (by omega) (SOK_a hg.1 (SOK_O hOt)) (fun g' f hK fo => b48_57 ?_)) (fun q => absurd (by omega) q))
          have hg' : CQ h g' s (12 * r) (r + 1) := by
            refine ⟨fun q q1 q2 q3 q4 => ?_, fun q q1 q2 q3 q4 q5 => ?_, fun e he => ?_⟩
            · rw [f q (by omega)]; exact hg.1 q q1 q2 q3 q4
            · rw [f q (by omega)]; exact hg.2.1 q q1 q2 q3 q4 q5
            · by_cases ee : e = r
              · subst ee
                exact KR_c (AG_q hg.1 (q := 7) (by decide)) (AG_q hg.1 (q := 8) (by decide)) (AG_q hg.1 (q := 29) (by decide)) hK
              · have x := hg.2.2 e (by omega)
                refine ⟨fun j hj => ?_, ?_⟩
                · rw [fo _ (by omega)]; exact x.1 j hj
                · rw [fo _ (by omega)]; exact x.2
          refine c_alk (d := d + 3) (h := h) (s := s) (by omega) (fun e he => hg'.2.2 e (by omega)) (fun e he hs hl => ?_) (fun hnn => ?_)
          · have rep : REP h s r e := ⟨⟨r1, by omega, he⟩, hs, hl, fun r' hr' => hn r' (by omega)⟩
            have GO : ∀ (v : Int), v = (if v2 = 0 then (e : Int) else (r : Int)) → X (d + 5) 48 81 [some (P 52), some (I ((s % 12 : Nat) : Int)), some (I v2), some (I (-9)), some (I (r : Int)), some (I (e : Int))] [I v] g' Q := by
              intro v hv
              subst hv
              refine b48_81 (b48_82 ?_)
              have E8 := fun v4 => EX g' _ (r + 1) (if v2 = 0 then (e : Int) else (r : Int)) v4 (by omega) hg' (fun g a b => H1 r e g rep a b)
              exact b48_11 (br_i (fun _ => E8 _) (fun _ => br_i (fun _ => E8 _) (fun q => absurd (by split <;> omega) q)))
            refine b48_63 (br_i (fun q => absurd q (by omega)) (fun _ => br_i (fun q => GO _ ?_) (fun q => GO _ ?_)))
            · rw [if_pos q]
            · rw [if_neg q]
          · refine b48_63 (br_i (fun _ => b48_82 ?_) (fun q => absurd (by decide) q))
            rw [w32_n (by omega)]
            refine ih (r + 1) (by omega) (by omega) g' hg' (fun r' hr' e' he' => ?_)
            by_cases er : r' = r
            · subst er; exact hnn e' he'
            · exact hn r' (by omega) e' he'
        | succ n ihn =>
          intro i hi g hg
          have hOt := EVO_O (s := s) hO (by omega) (12 * (r - 1) + i)
          have eh : Int.tmod (w32 (((s % 12 : Nat) : Int) + (i : Int))) 12 = (((s + (12 * (r - 1) + i)) % 12 : Nat) : Int) := by
            rw [w32_of (by omega) (by omega), Int.tmod_eq_emod_of_nonneg (by omega)]
            omega
          refine b48_27 (br_i (fun q => absurd q (by omega)) (fun _ => ?_))
          rw [eh]
          refine c_passA hg.1 (by omega) hOt (by omega) (fun g' ha hs hf _ => b48_45 ?_)
          rw [w32_n (by omega)]
          refine ihn (i + 1) (by omega) g' ⟨ha, fun q q1 q2 q3 q4 q5 => ?_, fun e he => KR_56 (hf 56 (by decide) (by decide) (by decide) (by decide) (by decide)) (hg.2.2 e he)⟩
          rw [hf q (by omega) q2 q3 q4 q5]; exact hg.2.1 q q1 q2 q3 q4 q5
      exact LP 12 0 rfl g hg
  refine b48_0 (c_keep (r := 0) (by decide) (SOK_O hO) (fun g' f hK fo => b48_5 (L 60 1 rfl (by decide) g' ⟨fun q q1 q2 q3 q4 => f q (by omega), fun q q1 q2 q3 q4 q5 => f q (by omega), fun e he => ?_⟩ (fun r hr e he => absurd he (by omega)))))
  have ee : e = 0 := by omega
  subst ee
  exact hK
theorem c_repeat {v1 : Int} (hR : R h) (es : s = (h 0 8).toNat) (H1 : (v1 = 0 ∨ v1 = 1) → ∀ (r e : Nat) g, REP h s r e → SCR h g → (∀ q, ¬ (52 ≤ q ∧ q ≤ 56) → g q = h q) → Q (I (if v1 = 0 then (r : Int) else (e : Int))) g) (H0 : (v1 = 0 ∨ v1 = 1) → NRP h s 60 → ∀ g, SCR h g → (∀ q, ¬ (52 ≤ q ∧ q ≤ 56) → g q = h q) → Q (I (-9)) g) (H3 : ¬ (v1 = 0 ∨ v1 = 1) → Q (I (-2)) (rfC h (-2))) : X (d + 6) 104 0 [some (P 0), some (I v1)] [] h Q := by
  have t01 : 0 ≤ h 0 8 := by
    obtain ⟨⟨r1, r2, r3, r4, r5, r6, r7, r8⟩, ⟨r9, r10, r11, r12, r13⟩, ⟨r14, r15, r16, r17, r18, r19, r20⟩, ⟨r21, r22, r23, r24, r25, r26⟩, ⟨r27, r28, r29, r30, r31⟩, ⟨r32, r33⟩, ⟨r34, r35, r36, r37, r38, r39, r40, r41, r42, r43, r44, r45⟩, ⟨r46, r47, r48⟩, ⟨r49, r50, r51, r52, r53, r54, r55⟩, ⟨r56, r57, r58, r59, r60, r61, r62, r63, r64, r65⟩, ⟨r66, r67, r68, r69, r70, r71, r72, r73, r74, r75⟩, ⟨r76, r77, r78, r79, r80, r81, r82, r83⟩, ⟨r84, r85, r86, r87, r88, r89⟩, ⟨r90, r91, r92, r93, r94, r95, r96, r97, r98⟩, ⟨r99, r100, r101, r102, r103, r104, r105, r106⟩, ⟨r107, r108, r109, r110, r111, r112, r113⟩, ⟨r114, r115, r116, r117, r118, r119, r120, r121, r122, r123⟩⟩ := id hR
    exact r68
  have eh : Int.tmod (h 0 8) 12 = ((s % 12 : Nat) : Int) := by
    rw [Int.tmod_eq_emod_of_nonneg t01]
    omega
  by_cases hv : v1 = 0 ∨ v1 = 1
  · have GO : ∀ v2 : Int, (v2 = if v1 = 0 then 1 else 0) → X (d + 6) 104 35 [some (P 0), some (I v1)] [I v2, I (Int.tmod (h 0 8) 12), P 52] h Q := by
      intro v2 e2
      rw [eh]
      refine b104_35 (c_rep (d := d) hR es (fun r e g rp sg fg => b104_38 ?_) (fun nr g sg fg => b104_38 (H0 hv nr g sg fg)))
      have := H1 hv r e g rp sg fg
      by_cases q : v1 = 0
      · rw [if_pos q] at this e2
        rw [if_neg (by omega)]
        exact this
      · rw [if_neg q] at this e2
        rw [if_pos e2]
        exact this
    refine b104_0 (z123 (br_i (fun q => absurd q (by omega)) (fun _ => br_i (fun _ => b104_5 (br_i (fun _ => br_i (fun q => GO 0 ?_) (fun q => GO 1 ?_)) (fun q => absurd rfl q))) (fun q => absurd (by omega) q))))
    · rw [if_neg q]
    · rw [if_pos (Classical.not_not.mp q)]
  · exact b104_0 (z123 (br_i (fun q => b104_5 (br_i (fun x => absurd x (by decide)) (fun _ => z121 ⟨by decide, by decide, b104_14 (H3 hv)⟩))) (fun _ => br_i (fun q => absurd (by omega) hv) (fun q => b104_5 (br_i (fun x => absurd x (by decide)) (fun _ => z121 ⟨by decide, by decide, b104_14 (H3 hv)⟩))))))
end P76
