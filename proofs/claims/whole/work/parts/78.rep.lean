/-! repeat: the model's rounds; the pair -/
section P78
variable {d : Nat} {h g k k0 S S' : HP} {Q : PV → HP → Prop} {s : Nat}
def KP (k : HP) (u : Nat → Int) (r : Nat) (S : HP) : Prop := ∀ j, j < 28 → k 113 (28 * r + j) = kp S u j
set_option maxHeartbeats 4000000 in
theorem m_alike {u : Nat → Int} {m n : Nat} (m60 : m ≤ 60) (n60 : n ≤ 60) (k1 : KP k u m S) (k2 : KP k u n S') (H1 : (∀ j, j < 28 → kp S u j = kp S' u j) → Q (I 1) k) (H0 : ¬ (∀ j, j < 28 → kp S u j = kp S' u j) → Q (I 0) k) : X d 198 0 [some (P 69), some (I (m : Int)), some (I (n : Int)), none, none] [] k Q := by
  have L : ∀ c i : Nat, i + c = 28 → ∀ v3 : Int, ((v3 = 1 ∧ ∀ j, j < i → kp S u j = kp S' u j) ∨ (v3 = 0 ∧ ¬ (∀ j, j < 28 → kp S u j = kp S' u j))) → X d 198 5 [some (P 69), some (I (m : Int)), some (I (n : Int)), some (I v3), some (I (i : Int))] [] k Q := by
    intro c
    induction c with
    | zero =>
      intro i hi v3 hv
      have ei : i = 28 := by omega
      subst ei
      refine b198_5 (br_i (fun _ => ?_) (fun q => absurd (by omega) q))
      rcases hv with ⟨e, hj⟩ | ⟨e, hj⟩
      · subst e; exact ⟨Or.inr rfl, H1 hj⟩
      · subst e; exact ⟨Or.inl rfl, H0 hj⟩
    | succ c ih =>
      intro i hi v3 hv
      have e1 : w32 (w32 (28 * (m : Int)) + (i : Int)) = ((28 * m + i : Nat) : Int) := by rw [w32_of (x := 28 * (m : Int)) (by omega) (by omega), w32_of (by omega) (by omega)]; omega
      have e2 : w32 (w32 (28 * (n : Int)) + (i : Int)) = ((28 * n + i : Nat) : Int) := by rw [w32_of (x := 28 * (n : Int)) (by omega) (by omega), w32_of (by omega) (by omega)]; omega
      have N : ∀ v v3 : Int, ((v = 1 ∧ ∀ j, j < i + 1 → kp S u j = kp S' u j) ∨ (v = 0 ∧ ¬ (∀ j, j < 28 → kp S u j = kp S' u j))) → X d 198 48 [some (P 69), some (I (m : Int)), some (I (n : Int)), some (I v3), some (I (i : Int))] [I v] k Q := by
        intro v v3 hv
        refine b198_48 ?_
        rw [w32_n (by omega)]
        exact ih (i + 1) (by omega) v hv
      refine b198_5 (br_i (fun q => absurd q (by omega)) (fun _ => br_i (fun q => b198_47 (N 0 _ (Or.inr ⟨rfl, ?_⟩))) (fun q => ?_)))
      · rcases hv with ⟨e, hj⟩ | ⟨e, hj⟩
        · omega
        · exact hj
      · rw [e1, e2]
        simp only [Int.toNat_natCast]
        rw [k1 i (by omega), k2 i (by omega)]
        refine an_i (by omega) (by omega) (an_i (by omega) (by omega) (br_i (fun q2 => b198_47 (N 0 _ (Or.inr ⟨rfl, fun x => q2 (x i (by omega))⟩))) (fun q2 => N 1 _ (Or.inl ⟨rfl, fun j hj => ?_⟩))))
        by_cases ej : j = i
        · subst ej; exact Classical.not_not.mp q2
        · rcases hv with ⟨e, hh⟩ | ⟨e, hh⟩
          · exact hh j (by omega)
          · exact absurd e q
  exact b198_0 (L 28 0 rfl 1 (Or.inl ⟨rfl, fun j hj => absurd hj (by omega)⟩))
/-- the model behind t ticks on trial, n rows kept -/
def RQ (h k0 k : HP) (s n t : Nat) : Prop := MV h k0 k (EVO h s t) (2000000 + 40000 * h 0 8 + 40000 * t) ∧ SV h k0 k ∧ (k 69 32 = h 0 8 + t ∧ k 69 70 = -9) ∧ ∀ e, e < n → KP k (k0 76) e (EVO h s (12 * e))
theorem MV_scr {B : Int} {k' : HP} (hm : MV h k0 k S B) (f : ∀ q, q ≠ 69 → q ≠ 95 → q ≠ 73 → q ≠ 75 → q ≠ 76 → k' q = k q) (e : k' 95 = k0 95 ∧ k' 73 = k0 73 ∧ k' 75 = k0 75 ∧ k' 76 = k0 76) (f2 : ∀ x, ¬ (32 ≤ x ∧ x ≤ 35) → x ≠ 70 → k' 69 x = k 69 x) (f70 : k' 69 70 = k0 69 70) (e2 : k' 69 32 = k0 69 32 ∧ k' 69 33 = k0 69 33 ∧ k' 69 34 = k0 69 34 ∧ k' 69 35 = k0 69 35) : SCR k0 k' := by
  refine ⟨fun q hq => ?_, fun x hx => ?_⟩
  · by_cases c95 : q = 95
    · subst c95; exact e.1
    by_cases c73 : q = 73
    · subst c73; exact e.2.1
    by_cases c75 : q = 75
    · subst c75; exact e.2.2.1
    by_cases c76 : q = 76
    · subst c76; exact e.2.2.2
    rw [f q (by omega) c95 c73 c75 c76]
    exact hm.2.2.1.1 q (by omega) c73 c95 c75 c76 (by omega)
  · have hx' : ¬ (49 ≤ x ∧ x ≤ 53) ∧ ¬ (55 ≤ x ∧ x ≤ 62) ∧ x ≠ 71 ∧ ¬ (74 ≤ x ∧ x ≤ 77) := sc_n hx
    by_cases c32 : x = 32
    · subst c32; exact e2.1
    by_cases c33 : x = 33
    · subst c33; exact e2.2.1
    by_cases c34 : x = 34
    · subst c34; exact e2.2.2.1
    by_cases c35 : x = 35
    · subst c35; exact e2.2.2.2
    by_cases c70 : x = 70
    · subst c70; exact f70
    rw [f2 x (by omega) c70]
    exact hm.2.2.1.2 x (by omega) hx'.1 hx'.2.1 (by omega) hx'.2.2.2
set_option maxHeartbeats 4000000 in
theorem m_rep {v1 : Int} (hR : R h) (h0 : TKR h k0 (2000000 + 40000 * h 0 8)) (z92 : k0 92 = h 25) (z70 : k0 69 70 = -9) (z32 : k0 69 32 = h 0 8) (es : s = (h 0 8).toNat) (H1 : ∀ (r e : Nat) k, REP h s r e → SCR k0 k → Q (I (if v1 = 0 then (r : Int) else (e : Int))) k) (H0 : NRP h s 60 → ∀ k, SCR k0 k → Q (I (-9)) k) : X (d + 21) 196 0 [some (P 69), none] [] k0 (fun _ h' => X (d + 22) 199 20 [some (P 69), some (I v1), none, none, none] [] h' Q) := by
  have hO := OKC_of hR
  have t01 : 0 ≤ h 0 8 ∧ h 0 8 ≤ 9999 := by
    obtain ⟨⟨r1, r2, r3, r4, r5, r6, r7, r8⟩, ⟨r9, r10, r11, r12, r13⟩, ⟨r14, r15, r16, r17, r18, r19, r20⟩, ⟨r21, r22, r23, r24, r25, r26⟩, ⟨r27, r28, r29, r30, r31⟩, ⟨r32, r33⟩, ⟨r34, r35, r36, r37, r38, r39, r40, r41, r42, r43, r44, r45⟩, ⟨r46, r47, r48⟩, ⟨r49, r50, r51, r52, r53, r54, r55⟩, ⟨r56, r57, r58, r59, r60, r61, r62, r63, r64, r65⟩, ⟨r66, r67, r68, r69, r70, r71, r72, r73, r74, r75⟩, ⟨r76, r77, r78, r79, r80, r81, r82, r83⟩, ⟨r84, r85, r86, r87, r88, r89⟩, ⟨r90, r91, r92, r93, r94, r95, r96, r97, r98⟩, ⟨r99, r100, r101, r102, r103, r104, r105, r106⟩, ⟨r107, r108, r109, r110, r111, r112, r113⟩, ⟨r114, r115, r116, r117, r118, r119, r120, r121, r122, r123⟩⟩ := id hR
    exact ⟨r68, r69⟩
  have hm0 : MV h k0 k0 h (2000000 + 40000 * h 0 8) := ⟨h0, STB_r h, ⟨fun _ _ _ _ _ _ _ => rfl, fun _ _ _ _ _ _ => rfl⟩, fun _ _ => rfl⟩
  have EX : ∀ (k : HP) (n t : Nat) (v2 : Int) (v3 : Int), RQ h k0 k s n t → (∀ k, SCR k0 k → (0 ≤ v2 → ((¬ v1 = 0 → Q (I v2) k) ∧ (¬ ¬ v1 = 0 → Q (I (w32 (v3 - 1))) k))) ∧ (¬ 0 ≤ v2 → Q (I (-9)) k)) → X (d + 22) 199 132 [some (P 69), some (I v1), some (I v2), some (I v3), none] [] k Q := by
    intro k n t v2 v3 hk HQ
    refine b199_132 (m_putb h0 hk.1 hk.2.1 (fun k' f e f2 e2 => b199_136 (HQ k' (MV_scr hk.1 f e (fun x h1 _ => f2 x h1) ?_ e2))))
    rw [f2 70 (by decide), hk.2.2.1.2, z70]
  have SK : ∀ e n : Nat, (∀ j, j < 28 → kp (EVO h s (12 * e)) (k0 76) j = kp (EVO h s (12 * n)) (k0 76) j) ↔ SAM h s e n := fun e n => SAM_kp (EVO_s hO (by omega) _) (EVO_s hO (by omega) _) (SOK_O (EVO_O hO (by omega) _)) (SOK_O (EVO_O hO (by omega) _))
  have L : ∀ m n : Nat, n + m = 61 → ∀ k, RQ h k0 k s n (12 * n) → (∀ r', r' < n → ∀ e', e' < r' → ¬ SAM h s e' r') → X (d + 22) 199 25 [some (P 69), some (I v1), some (I (-9)), some (I (n : Int)), none] [] k Q := by
    intro m
    induction m with
    | zero =>
      intro n hn k hk hr
      have en : n = 61 := by omega
      subst en
      exact b199_25 (br_i (fun q => absurd q (by decide)) (fun _ => br_i (fun _ => EX k 61 _ _ _ hk (fun k sk => ⟨fun q => absurd q (by decide), fun _ => H0 (fun r hr2 e he => hr r (by omega) e he) k sk⟩)) (fun q => absurd (by omega) q)))
    | succ m ih =>
      intro n hn k hk hr
      -- twelve ticks
      have LT : ∀ c i : Nat, i + c = 12 → ∀ k, RQ h k0 k s (n + 1) (12 * n + i) → (∀ e', e' < n → ¬ SAM h s e' n) → X (d + 22) 199 105 [some (P 69), some (I v1), some (I (-9)), some (I (n : Int)), some (I (i : Int))] [] k Q := by
        intro c
        induction c with
        | zero =>
          intro i hi k hk hnn
          have ei : i = 12 := by omega
          subst ei
          refine b199_105 (br_i (fun _ => b199_126 ?_) (fun q => absurd (by omega) q))
          rw [w32_n (by omega)]
          have et : 12 * n + 12 = 12 * (n + 1) := by omega
          rw [et] at hk
          refine ih (n + 1) (by omega) k hk (fun r' hr' e' he' => ?_)
          by_cases er : r' = n
          · subst er; exact hnn e' he'
          · exact hr r' (by omega) e' he'
        | succ c ihc =>
          intro i hi k hk hnn
          have hY : BYH (EVO h s (12 * n + i)) k ((s + (12 * n + i)) % 12) := by
            left
            rw [hk.2.2.1.2, hk.1.2.2.1.1 92 (by decide) (by decide) (by decide) (by decide) (by decide) (by decide), EVO_f (q := 25) (by decide), z92]
            exact ⟨by decide, rfl⟩
          refine b199_105 (br_i (fun q => absurd q (by omega)) (fun _ => br_i (fun q => absurd q (by decide)) (fun _ => m_tickV (hr := (s + (12 * n + i)) % 12) hk.1 (by omega) (by omega) hY (by rw [hk.2.2.1.1, es]; exact hr_e t01.1) (by omega) (fun k' hm' e32 e113 f69 => b199_120 ?_))))
          rw [w32_n (by omega)]
          have eB : 2000000 + 40000 * h 0 8 + 40000 * ((12 * n + i : Nat) : Int) + 40000 = 2000000 + 40000 * h 0 8 + 40000 * ((12 * n + (i + 1) : Nat) : Int) := by omega
          rw [eB] at hm'
          refine ihc (i + 1) (by omega) k' ⟨hm', ⟨fun j hj => by rw [e113.2]; exact hk.2.1.1 j hj, ?_⟩, ⟨?_, ?_⟩, fun e he j hj => by rw [e113.1]; exact hk.2.2.2 e he j hj⟩ hnn
          · rw [f69 74 (by decide) (by decide) (by decide), f69 75 (by decide) (by decide) (by decide), f69 76 (by decide) (by decide) (by decide), f69 77 (by decide) (by decide) (by decide)]
            exact hk.2.1.2
          · rw [e32, hk.2.2.1.1, w32_of (by omega) (by omega)]; omega
          · rw [f69 70 (by decide) (by decide) (by decide)]; exact hk.2.2.1.2
      -- earlier rounds, backwards
      have LC : ∀ i : Nat, i ≤ n → ∀ (v2 : Int) (k : HP), RQ h k0 k s (n + 1) (12 * n) → ((v2 = -9 ∧ ∀ e, i ≤ e → e < n → ¬ SAM h s e n) ∨ (∃ e0 : Nat, v2 = (e0 : Int) ∧ i ≤ e0 ∧ e0 < n ∧ SAM h s e0 n ∧ ∀ e, i ≤ e → e < e0 → ¬ SAM h s e n)) → X (d + 22) 199 74 [some (P 69), some (I v1), some (I v2), some (I (n : Int)), some (I ((i : Int) - 1))] [] k Q := by
        intro i
        induction i with
        | zero =>
          intro _ v2 k hk hv
          refine b199_74 (br_i (fun _ => ?_) (fun q => absurd (by omega) q))
          rcases hv with ⟨e2, hnn⟩ | ⟨e0, e2, h0', h1', hs, hl⟩
          · subst e2
            exact LT 12 0 rfl k hk (fun e' he' => hnn e' (by omega) he')
          · subst e2
            have rep : REP h s n e0 := ⟨⟨by omega, by omega, h1'⟩, hs, fun e' he' => hl e' (by omega) he', hr⟩
            refine b199_105 (br_i (fun q => absurd q (by omega)) (fun _ => br_i (fun _ => b199_126 ?_) (fun q => absurd (by omega) q)))
            rw [w32_n (by omega)]
            refine b199_25 (br_i (fun _ => EX k (n + 1) _ _ _ hk (fun k sk => ⟨fun _ => ⟨fun q => ?_, fun q => ?_⟩, fun q => absurd (by omega) q⟩)) (fun q => absurd (by omega) q))
            · have := H1 n e0 k rep sk
              rw [if_neg q] at this
              exact this
            · have := H1 n e0 k rep sk
              rw [if_pos (Classical.not_not.mp q)] at this
              have ew : w32 (((n + 1 : Nat) : Int) - 1) = (n : Int) := by rw [w32_of (by omega) (by omega)]; omega
              rw [ew]
              exact this
        | succ i ihi =>
          intro hi v2 k hk hv
          have ei : ((i + 1 : Nat) : Int) - 1 = (i : Int) := by omega
          have ed : w32 ((i : Int) + (-1)) = (i : Int) - 1 := by rw [w32_of (by omega) (by omega)]; omega
          rw [ei]
          refine b199_74 (br_i (fun q => absurd q (by omega)) (fun _ => m_alike (by omega) (by omega) (hk.2.2.2 i (by omega)) (hk.2.2.2 n (by omega)) (fun q => b199_86 (br_i (fun x => absurd x (by decide)) (fun _ => b199_95 ?_))) (fun q => b199_86 (br_i (fun _ => b199_95 ?_) (fun x => absurd rfl x)))))
          · rw [ed]
            refine ihi (by omega) _ k hk (Or.inr ⟨i, rfl, Nat.le_refl _, by omega, (SK i n).mp q, fun e h1 h2 => absurd h1 (by omega)⟩)
          · rw [ed]
            have nq : ¬ SAM h s i n := fun x => q ((SK i n).mpr x)
            refine ihi (by omega) _ k hk ?_
            rcases hv with ⟨e2, hnn⟩ | ⟨e0, e2, h0', h1', hs, hl⟩
            · refine Or.inl ⟨e2, fun e h1 h2 => ?_⟩
              by_cases ee : e = i
              · subst ee; exact nq
              · exact hnn e (by omega) h2
            · refine Or.inr ⟨e0, e2, by omega, h1', hs, fun e h1 h2 => ?_⟩
              by_cases ee : e = i
              · subst ee; exact nq
              · exact hl e (by omega) h2
      -- the row is kept
      have LK : ∀ c i : Nat, i + c = 28 → ∀ k, RQ h k0 k s n (12 * n) → (∀ j, j < i → k 113 (28 * n + j) = kp (EVO h s (12 * n)) (k0 76) j) → X (d + 22) 199 38 [some (P 69), some (I v1), some (I (-9)), some (I (n : Int)), some (I (i : Int))] [] k Q := by
        intro c
        induction c with
        | zero =>
          intro i hi k hk hj
          have ei : i = 28 := by omega
          subst ei
          refine b199_38 (br_i (fun _ => ?_) (fun q => absurd (by omega) q))
          rw [w32_of (x := (n : Int) - 1) (by omega) (by omega)]
          refine LC n (Nat.le_refl _) (-9) k ⟨hk.1, hk.2.1, hk.2.2.1, fun e he => ?_⟩ (Or.inl ⟨rfl, fun e h1 h2 => absurd h1 (by omega)⟩)
          by_cases ee : e = n
          · subst ee; exact hj
          · exact hk.2.2.2 e (by omega)
        | succ c ihc =>
          intro i hi k hk hj
          have e1 : w32 (w32 (28 * (n : Int)) + (i : Int)) = ((28 * n + i : Nat) : Int) := by rw [w32_of (x := 28 * (n : Int)) (by omega) (by omega), w32_of (by omega) (by omega)]; omega
          refine b199_38 (br_i (fun q => absurd q (by omega)) (fun _ => m_now (by omega) hk.1 (b199_62 ?_)))
          rw [e1, w32_n (by omega)]
          simp only [Int.toNat_natCast]
          refine an_i (by omega) (by omega) (ihc (i + 1) (by omega) _ ⟨MV_k hk.1 (fun q h1 h2 => up_p (by omega)) (fun x _ => by rw [up_p (by decide)]) (fun x _ => by rw [up_p (by decide)]), ⟨?_, ?_⟩, ?_, fun e he j h28 => ?_⟩ (fun j hj2 => ?_))
          · rw [up_p (by decide)]; exact hk.2.1.1
          · rw [up_p (by decide)]; exact hk.2.1.2
          · rw [up_p (by decide)]; exact hk.2.2.1
          · rw [up_i (by omega)]; exact hk.2.2.2 e he j h28
          · rw [up_st]
            by_cases ej : j = i
            · subst ej; exact st1_s
            · rw [st1_n (by omega)]; exact hj j (by omega)
      exact b199_25 (br_i (fun q => absurd q (by decide)) (fun _ => br_i (fun q => absurd q (by omega)) (fun _ => LK 28 0 rfl k hk (fun j hj => absurd hj (by omega)))))
  refine m_save (d := d + 20) hm0 (fun k hm hv f => b199_20 (L 61 0 rfl k ⟨?_, hv, ⟨?_, ?_⟩, fun e he => absurd he (by omega)⟩ (fun r' hr' => absurd hr' (by omega))))
  · show MV h k0 k h _
    simpa using hm
  · rw [f 32 (by decide), z32]; simp
  · rw [f 70 (by decide), z70]
theorem m_repeat {v1 : Int} (H1 : (v1 = 0 ∨ v1 = 1) → X (d + 21) 196 0 [some (P 69), none] [] k0 (fun _ h' => X (d + 22) 199 20 [some (P 69), some (I v1), none, none, none] [] h' Q)) (H3 : ¬ (v1 = 0 ∨ v1 = 1) → Q (I (-2)) (rfM k0 (-2))) : X (d + 22) 199 0 [some (P 69), some (I v1), none, none, none] [] k0 Q := by
  by_cases hv : v1 = 0 ∨ v1 = 1
  · exact b199_0 (z134 (br_i (fun q => absurd q (by omega)) (fun _ => br_i (fun q => absurd q (by omega)) (fun _ => b199_6 (br_i (fun _ => H1 hv) (fun q => absurd (by decide) q))))))
  · exact b199_0 (z134 (br_i (fun q => b199_6 (br_i (fun x => absurd rfl x) (fun _ => z135 ⟨by decide, by decide, b199_15 (H3 hv)⟩))) (fun _ => br_i (fun q => b199_6 (br_i (fun x => absurd rfl x) (fun _ => z135 ⟨by decide, by decide, b199_15 (H3 hv)⟩))) (fun q => absurd (by omega) hv))))
theorem p_repeat {v1 : Int} (hR : R h) : X (d + 22) 104 0 [some (P 0), some (I v1)] [] h (fun r h1 => X (d + 22) 199 0 [some (P 69), some (I v1), none, none, none] [] h1 (fun r' h2 => EQA r r' h2)) := by
  have hT := TKR_of hR
  have F : h 0 8 = h 69 32 ∧ h 25 = h 92 ∧ h 69 70 = -9 := by
    obtain ⟨⟨r1, r2, r3, r4, r5, r6, r7, r8⟩, ⟨r9, r10, r11, r12, r13⟩, ⟨r14, r15, r16, r17, r18, r19, r20⟩, ⟨r21, r22, r23, r24, r25, r26⟩, ⟨r27, r28, r29, r30, r31⟩, ⟨r32, r33⟩, ⟨r34, r35, r36, r37, r38, r39, r40, r41, r42, r43, r44, r45⟩, ⟨r46, r47, r48⟩, ⟨r49, r50, r51, r52, r53, r54, r55⟩, ⟨r56, r57, r58, r59, r60, r61, r62, r63, r64, r65⟩, ⟨r66, r67, r68, r69, r70, r71, r72, r73, r74, r75⟩, ⟨r76, r77, r78, r79, r80, r81, r82, r83⟩, ⟨r84, r85, r86, r87, r88, r89⟩, ⟨r90, r91, r92, r93, r94, r95, r96, r97, r98⟩, ⟨r99, r100, r101, r102, r103, r104, r105, r106⟩, ⟨r107, r108, r109, r110, r111, r112, r113⟩, ⟨r114, r115, r116, r117, r118, r119, r120, r121, r122, r123⟩⟩ := id hR
    exact ⟨r40, r23, r55⟩
  have MT : ∀ g, (∀ q, ¬ (52 ≤ q ∧ q ≤ 56) → g q = h q) → TKR h g (2000000 + 40000 * h 0 8) ∧ g 92 = h 25 ∧ g 69 70 = -9 ∧ g 69 32 = h 0 8 := fun g f => ⟨TKR_k hT (fun q hq => f q (by omega)) (fun x _ => by rw [f 69 (by decide)]), by rw [f 92 (by decide), F.2.1], by rw [f 69 (by decide), F.2.2], by rw [f 69 (by decide), F.1]⟩
  refine c_repeat (d := d + 16) hR rfl (fun hv r e g rp sg fg => ?_) (fun hv nr g sg fg => ?_) (fun hn => m_repeat (fun hv => absurd hv hn) (fun _ => EQA_rf hR))
  · obtain ⟨m1, m2, m3, m4⟩ := MT g fg
    refine m_repeat (fun _ => m_rep hR m1 m2 m3 m4 rfl (fun r' e' k rp' sk => ?_) (fun nr => absurd nr (fun x => REP_n rp x))) (fun hn => absurd hv hn)
    obtain ⟨a, b⟩ := REP_u rp rp'
    subst a b
    exact ⟨rfl, R_scr sk (R_scr sg hR)⟩
  · obtain ⟨m1, m2, m3, m4⟩ := MT g fg
    exact m_repeat (fun _ => m_rep hR m1 m2 m3 m4 rfl (fun r' e' k rp' sk => absurd nr (fun x => REP_n rp' x)) (fun _ k sk => ⟨rfl, R_scr sk (R_scr sg hR)⟩)) (fun hn => absurd hv hn)
end P78
