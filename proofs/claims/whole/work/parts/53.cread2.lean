/-! the class reads a text: parts, cases, the subject -/
section RD
variable {d : Nat} {h : HP} {Q : PV → HP → Prop} {a m n : Nat} {dr : Nat → Int}
theorem CR_up {D D' meth : Nat} {dep dep' : Int} {pp : Nat → PRS} (H : CRun h D meth dep pp) (e : D = D') (e2 : dep = dep') : CRun h D' meth dep' pp := by subst e e2; exact H
set_option maxHeartbeats 4000000 in
theorem c_part (hb : rgA (h 37) 0 255) (hn : h 36 1 = n) (n40 : n ≤ 40) : ∀ (k : Nat), k ≤ 4 → ∀ D, 3 * k + 4 ≤ D → CRun h D 39 (4 - (k : Int)) (pPt (h 37) n k) := by
  have FA : ∀ (D : Nat) (dep v2 : Int) (Q : PV → HP → Prop) (a m : Nat) (dr : Nat → Int), m ≤ a → CK Q h m dr (pFa (h 37) n a) → X (D + 2) 40 0 [some (P 36), none, none, none, none, none] [] (CHP h a m dr) (fun r h' => X (D + 2 + 1) 39 32 [some (P 36), some (I dep), some (I v2)] [r] h' Q) := by
    intro D dep v2 Q a m dr hm K
    exact c_fact hb hn n40 hm (CK_b (fun c => b39_32 ⟨Or.inr rfl, K.1 c⟩) (fun c m' dr' => b39_32 ⟨Or.inl rfl, K.2 c m' dr'⟩))
  intro k
  induction k with
  | zero =>
    intro _ D hD Q a m dr hm ha K
    obtain ⟨D', rfl⟩ : ∃ D', D = D' + 3 := ⟨D - 3, by omega⟩
    unfold pPt at K
    have F33 : ∀ v2, CK Q h m dr (pFl a) → X (D' + 3) 39 33 [some (P 36), some (I (4 - ((0 : Nat) : Int))), some (I v2)] [] (CHP h a m dr) Q := fun v2 K => b39_33 (br_i (fun q => absurd q (by decide)) (fun _ => CK_f K _ _))
    refine b39_0 (c_next hn n40 (b39_4 (br_i (fun q => b39_14 (br_i (fun x => absurd rfl x) (fun _ => c_next hn n40 (b39_23 (br_i (fun q2 => F33 _ ?_) (fun q2 => FA D' _ _ Q a m dr hm ?_)))))) (fun q => b39_14 (br_i (fun _ => F33 _ ?_) (fun x => absurd (by decide) x))))))
    · rw [if_neg q, if_pos q2] at K; exact K
    · rw [if_neg q, if_neg q2] at K; exact K
    · rw [if_pos (Classical.not_not.mp q)] at K; exact K
  | succ k ih =>
    intro hk D hD Q a m dr hm ha K
    obtain ⟨D', rfl⟩ : ∃ D', D = D' + 3 := ⟨D - 3, by omega⟩
    have P0 := ih (by omega)
    have ed : w32 (4 - ((k + 1 : Nat) : Int) + 1) = 4 - (k : Int) := by rw [w32_of (by omega) (by omega)]; omega
    unfold pPt at K
    -- a part behind '!'
    have N33 : nxc (h 37) n a = 33 → CK Q h m dr (pNo (pPt (h 37) n k (a + 1))) → X (D' + 3) 39 33 [some (P 36), some (I (4 - ((k + 1 : Nat) : Int))), some (I 1)] [] (CHP h a m dr) Q := by
      intro e K
      have an := nxc_n e (by decide)
      refine b39_33 (br_i (fun _ => br_i (fun _ => ?_) (fun x => absurd (by decide) x)) (fun q => absurd (by omega) q))
      rw [ed, CHP_2, CHP_u (a' := a + 1) (w32_n (by omega))]
      unfold pNo at K
      refine P0 (D' + 2) (by omega) _ (a + 1) m dr (by omega) (by omega) (CK_b (fun c => b39_86 (br_i (fun _ => ?_) (fun x => absurd (by decide) x))) (fun c m' dr' => b39_86 (br_i (fun x => absurd rfl x) (fun _ => ?_))))
      · rw [if_pos c] at K
        obtain ⟨x1, x2, x3, -⟩ := pPt_g (b := h 37) (n := n) k (a + 1) c
        have K1 := K.1 rfl
        simp only [List.length_append, List.length_singleton] at K1
        rw [appR_app] at K1
        exact c_write (by omega) (b39_97 K1)
      · rw [if_neg (fT c)] at K
        exact CK_f K _ _
    have N40 : nxc (h 37) n a = 40 → CK Q h m dr (pCl (h 37) n (pTs (pPt (h 37) n k) (h 37) n (a + 1))) → X (D' + 3) 39 33 [some (P 36), some (I (4 - ((k + 1 : Nat) : Int))), some (I 0)] [] (CHP h a m dr) Q := by
      intro e K
      have an := nxc_n e (by decide)
      refine b39_33 (br_i (fun _ => br_i (fun x => absurd rfl x) (fun _ => ?_)) (fun q => absurd (by omega) q))
      rw [ed, CHP_2, CHP_u (a' := a + 1) (w32_n (by omega))]
      unfold pCl at K
      have HP1 : CRun h (D' + 1) 38 (4 - (k : Int)) (pPs (pPt (h 37) n k) (h 37) n) := by
        obtain ⟨D2, rfl⟩ : ∃ D2, D' = D2 + 1 := ⟨D' - 1, by omega⟩
        exact c_parts hn n40 (pPt_g k) (P0 (D2 + 1) (by omega))
      refine c_terms hn n40 (pPs_g (pPt_g k)) HP1 _ (a + 1) m dr (by omega) (by omega) ?_
      show CK _ h m dr (pTs (pPt (h 37) n k) (h 37) n (a + 1))
      refine CK_b (fun c => b39_61 (br_i (fun x => absurd x (by decide)) (fun _ => ?_))) (fun c m' dr' => b39_61 (br_i (fun _ => ?_) (fun x => absurd rfl x)))
      · rw [if_pos c] at K
        refine c_take (by decide) hn n40 (fun e2 => b39_70 (br_i (fun x => absurd x (by decide)) (fun _ => ?_))) (fun e2 => b39_70 (br_i (fun _ => ?_) (fun x => absurd rfl x)))
        · rw [if_pos e2] at K; exact K.1 rfl
        · rw [if_neg e2] at K; exact CK_f K _ _
      · rw [if_neg (fT c)] at K
        exact CK_f K _ _
    refine b39_0 (c_next hn n40 (b39_4 (br_i (fun q => b39_14 (br_i (fun x => absurd rfl x) (fun _ => c_next hn n40 (b39_23 (br_i (fun q2 => N40 q2 ?_) (fun q2 => FA D' _ _ Q a m dr hm ?_)))))) (fun q => b39_14 (br_i (fun _ => N33 (Classical.not_not.mp q) ?_) (fun x => absurd (by decide) x))))))
    · rw [if_neg q, if_pos q2] at K; exact K
    · rw [if_neg q, if_neg q2] at K; exact K
    · rw [if_pos (Classical.not_not.mp q)] at K; exact K
theorem c_term0 (hb : rgA (h 37) 0 255) (hn : h 36 1 = n) (n40 : n ≤ 40) : CRun h (d + 18) 37 0 (pTs (pPt (h 37) n 4) (h 37) n) := by
  have H4 := c_part hb hn n40 4 (by decide)
  have HP1 : CRun h (d + 17) 38 0 (pPs (pPt (h 37) n 4) (h 37) n) := c_parts (D := d + 15) hn n40 (pPt_g 4) (CR_up (H4 (d + 16) (by omega)) rfl (by decide))
  intro Q a m dr hm ha K
  exact c_terms (D := d + 16) hn n40 (pPs_g (pPt_g 4)) HP1 Q a m dr hm ha K
/-- what is left behind cases -/
def CKC (Q : PV → HP → Prop) (h : HP) (dr : Nat → Int) (r : CRS) : Prop := (r.1 = true → Q (I 1) (CHP h r.2.1 r.2.2.1.length (appR dr 0 r.2.2.1))) ∧ (r.1 = false → ∀ m' dr', Q (I 0) (CHP h r.2.1 m' dr'))
theorem CKC_f {a' : Nat} (K : CKC Q h dr (cFl a')) (m' : Nat) (dr' : Nat → Int) : Q (I 0) (CHP h a' m' dr') := K.2 rfl m' dr'
theorem or_tl : ∀ v : Nat, v < 10 → bOr 5242880 (v : Int) = 5242880 + (v : Int) := by decide +kernel
set_option maxHeartbeats 4000000 in
theorem c_cases {most : Int} (hb : rgA (h 37) 0 255) (hn : h 36 1 = n) (n40 : n ≤ 40) (m9 : most ≤ 9) (dr : Nat → Int) : ∀ k i : Nat, i + k = 40 → ∀ (a : Nat) (st : List Int) (tl : (Nat → Int) → Int), st.length ≤ a → a ≤ 40 → CKC Q h dr (pCs (h 37) n most k a st tl) → X (d + 19) 36 2 [some (P 36), some (I most), some (I (i : Int)), none] [] (CHP h a st.length (appR dr 0 st)) Q := by
  intro k
  induction k with
  | zero =>
    intro i hi a st tl hs ha K
    exact b36_2 (br_i (fun _ => CKC_f K _ _) (fun q => absurd (by omega) q))
  | succ k ih =>
    intro i hi a st tl hs ha K
    unfold pCs at K
    refine b36_2 (br_i (fun q => absurd q (by omega)) (fun _ => c_term0 hb hn n40 _ a st.length (appR dr 0 st) hs ha (CK_b (fun c => b36_13 (br_i (fun x => absurd x (by decide)) (fun _ => ?_))) (fun c m' dr' => b36_13 (br_i (fun _ => ?_) (fun x => absurd rfl x))))))
    · rw [if_pos c] at K
      obtain ⟨x1, x2, x3, -⟩ := pTs_g (b := h 37) (pPt_g (b := h 37) (n := n) 4) a c
      generalize pTs (pPt (h 37) n 4) (h 37) n a = r at *
      refine c_take (by decide) hn n40 (fun e => b36_22 (br_i (fun _ => ?_) (fun x => absurd (by decide) x))) (fun e => b36_22 (br_i (fun x => absurd rfl x) (fun _ => ?_)))
      · have rn := nxc_n e (by decide)
        rw [if_pos e] at K
        refine c_digit hb hn n40 (fun c4 => b36_32 ?_) (fun c4 => b36_32 (br_i (fun x => absurd x (by decide)) (fun _ => ?_)))
        · have r4 := dgt_r c4
          rw [if_neg c4] at K
          generalize eg : dgt (h 37) n (r.2.1 + 1) most = dg at *
          obtain ⟨g, rfl⟩ := Int.eq_ofNat_of_zero_le r4.1
          refine br_i (fun _ => ?_) (fun x => absurd r4.1 x)
          rw [or_tl g (by omega)]
          refine c_write (by omega) (b36_47 ?_)
          rw [CHP_1, CHP_2, hn]
          have eA : st1 (appR (appR dr 0 st) st.length r.2.2.1) (st.length + r.2.2.1.length) (5242880 + (g : Int)) = appR dr 0 (st ++ (r.2.2.1 ++ [5242880 + (g : Int)])) := by
            rw [appR_app, appR_app]
            show _ = st1 (appR (appR dr 0 st) (0 + st.length) r.2.2.1) (0 + st.length + r.2.2.1.length) _
            rw [Nat.zero_add]
          have eL : st.length + r.2.2.1.length + 1 = (st ++ (r.2.2.1 ++ [5242880 + (g : Int)])).length := by
            simp only [List.length_append, List.length_singleton]; omega
          rw [eA, eL]
          refine br_i (fun q => ?_) (fun q => ?_)
          · rw [if_neg (show ¬ n ≤ r.2.1 + 2 by omega)] at K
            refine c_take (by decide) hn n40 (fun e5 => b36_66 (br_i (fun _ => ?_) (fun x => absurd (by decide) x))) (fun e5 => b36_66 (br_i (fun x => absurd rfl x) (fun _ => ?_)))
            · rw [if_pos e5] at K
              rw [w32_n (by omega)]
              exact ih (i + 1) (by omega) (r.2.1 + 1 + 1 + 1) _ _ (by rw [← eL]; omega) (by omega) K
            · rw [if_neg e5] at K
              exact CKC_f K _ _
          · rw [if_pos (show n ≤ r.2.1 + 2 by omega)] at K
            exact K.1 rfl
        · rw [if_pos c4] at K; exact CKC_f K _ _
      · rw [if_neg e] at K; exact CKC_f K _ _
    · rw [if_neg (fT c)] at K
      exact CKC_f K _ _
def sbj (b : Nat → Int) (n : Nat) (nh np : Int) (fl : Nat → Int) : Int × Nat :=
  if nxc b n 0 = 72 then (if 0 ≤ nxc b n 1 - 48 ∧ nxc b n 1 - 48 < nh then (if nxc b n 2 = 58 then (nxc b n 1 - 48, 3) else (-1, 2)) else (-1, 1))
  else if nxc b n 0 = 70 then (if 0 ≤ nxc b n 1 - 48 ∧ nxc b n 1 - 48 < np ∧ ¬ fl (nxc b n 1 - 48).toNat = -9 then (if nxc b n 2 = 58 then (4 + (nxc b n 1 - 48), 3) else (-1, 2)) else (-1, 1))
  else (-1, 0)
theorem sbj_r {b : Nat → Int} {nh np : Int} {fl : Nat → Int} (h1 : nh ≤ 4) (h2 : np ≤ 8) : ((sbj b n nh np fl).1 = -1 ∧ (sbj b n nh np fl).2 ≤ 2) ∨ (0 ≤ (sbj b n nh np fl).1 ∧ (sbj b n nh np fl).1 < 12 ∧ (sbj b n nh np fl).2 = 3 ∧ 3 ≤ n) := by
  unfold sbj
  by_cases c1 : nxc b n 0 = 72
  · rw [if_pos c1]
    by_cases c2 : 0 ≤ nxc b n 1 - 48 ∧ nxc b n 1 - 48 < nh
    · rw [if_pos c2]
      by_cases c3 : nxc b n 2 = 58
      · rw [if_pos c3]
        have := nxc_n c3 (by decide)
        exact Or.inr ⟨c2.1, by show nxc b n 1 - 48 < 12; omega, rfl, by omega⟩
      · rw [if_neg c3]; exact Or.inl ⟨rfl, by decide⟩
    · rw [if_neg c2]; exact Or.inl ⟨rfl, by decide⟩
  · rw [if_neg c1]
    by_cases c4 : nxc b n 0 = 70
    · rw [if_pos c4]
      by_cases c2 : 0 ≤ nxc b n 1 - 48 ∧ nxc b n 1 - 48 < np ∧ ¬ fl (nxc b n 1 - 48).toNat = -9
      · rw [if_pos c2]
        by_cases c3 : nxc b n 2 = 58
        · rw [if_pos c3]
          have := nxc_n c3 (by decide)
          exact Or.inr ⟨by show 0 ≤ 4 + (nxc b n 1 - 48); omega, by show 4 + (nxc b n 1 - 48) < 12; omega, rfl, by omega⟩
        · rw [if_neg c3]; exact Or.inl ⟨rfl, by decide⟩
      · rw [if_neg c2]; exact Or.inl ⟨rfl, by decide⟩
    · rw [if_neg c4]; exact Or.inl ⟨rfl, by decide⟩
set_option maxHeartbeats 4000000 in
theorem c_subj (hb : rgA (h 37) 0 255) (hn : h 36 1 = n) (n40 : n ≤ 40) (np8 : h 2 0 ≤ 8) (H : Q (I (sbj (h 37) n (h 26 2) (h 2 0) (h 8)).1) (CHP h (sbj (h 37) n (h 26 2) (h 2 0) (h 8)).2 0 dr)) : X (d + 3) 34 0 [some (P 36), none, none] [] (CHP h 0 0 dr) Q := by
  have nb := nxc_b (n := n) (a := 1) hb
  unfold sbj at H
  -- the colon
  have T : ∀ (v1 v2 r : Int), (r = if v1 = 0 then 4 + v2 else v2) → w32 (4 + v2) = 4 + v2 → (nxc (h 37) n 2 = 58 → Q (I r) (CHP h 3 0 dr)) → (¬ nxc (h 37) n 2 = 58 → Q (I (-1)) (CHP h 2 0 dr)) → X (d + 3) 34 82 [some (P 36), some (I v1), some (I v2)] [] (CHP h 1 0 dr) Q := by
    intro v1 v2 r er e4 H1 H2
    refine b34_82 ?_
    rw [CHP_2, CHP_u (a' := 2) (by decide)]
    refine c_take (by decide) hn n40 (fun e => b34_98 (br_i (fun _ => br_i (fun q => ?_) (fun q => ?_)) (fun x => absurd (by decide) x))) (fun e => b34_98 (br_i (fun x => absurd rfl x) (fun _ => H2 e)))
    · rw [e4]
      rw [if_pos q] at er
      rw [← er]; exact H1 e
    · rw [if_neg q] at er
      rw [← er]; exact H1 e
  have S : ∀ (v1 : Int), (v1 = 1 → nxc (h 37) n 0 = 72) → (v1 = 0 → ¬ nxc (h 37) n 0 = 72 ∧ nxc (h 37) n 0 = 70) → (v1 = 0 ∨ v1 = 1) → X (d + 3) 34 30 [some (P 36), some (I v1), none] [] (CHP h 0 0 dr) Q := by
    intro v1 q1 q0 qv
    refine b34_30 ?_
    rw [CHP_2, CHP_u (a' := 1) (by decide)]
    refine c_next hn n40 (b34_44 ?_)
    have e48 : w32 (nxc (h 37) n 1 - 48) = nxc (h 37) n 1 - 48 := w32_of (by omega) (by omega)
    rw [e48, CHP_p (q := 26) (by decide) (by decide)]
    have e52 : w32 (4 + (nxc (h 37) n 1 - 48)) = 4 + (nxc (h 37) n 1 - 48) := w32_of (by omega) (by omega)
    refine br_i (fun q => z35 ?_) (fun q => z123 ?_)
    · obtain ⟨k1, k2⟩ := q0 q
      rw [if_neg k1, if_pos k2] at H
      rw [CHP_p (q := 2) (by decide) (by decide), CHP_p (q := 8) (by decide) (by decide)]
      refine br_i (fun c => b34_77 (br_i (fun x => absurd rfl x) (fun _ => ?_))) (fun c => br_i (fun c2 => an_i (by omega) (by omega) (br_i (fun c3 => b34_77 (br_i (fun x => absurd rfl x) (fun _ => ?_))) (fun c3 => b34_77 (br_i (fun _ => ?_) (fun x => absurd (by decide) x))))) (fun c2 => b34_77 (br_i (fun x => absurd rfl x) (fun _ => ?_))))
      · rw [if_neg (fun x => by omega)] at H; exact H
      · rw [if_neg (fun x => x.2.2 c3)] at H; exact H
      · rw [if_pos ⟨by omega, c2, c3⟩] at H
        refine T v1 _ _ (by rw [if_pos q]) e52 (fun e => ?_) (fun e => ?_)
        · rw [if_pos e] at H; exact H
        · rw [if_neg e] at H; exact H
      · rw [if_neg (fun x => by omega)] at H; exact H
    · have k1 := q1 (by omega)
      rw [if_pos k1] at H
      refine br_i (fun c => b34_66 (br_i (fun x => absurd x (by decide)) (fun _ => ?_))) (fun c => br_i (fun c2 => b34_66 (br_i (fun _ => ?_) (fun x => absurd rfl x))) (fun c2 => b34_66 (br_i (fun x => absurd x (by decide)) (fun _ => ?_))))
      · rw [if_neg (fun x => by omega)] at H; exact H
      · rw [if_pos ⟨by omega, c2⟩] at H
        refine T v1 _ _ (by rw [if_neg q]) e52 (fun e => ?_) (fun e => ?_)
        · rw [if_pos e] at H; exact H
        · rw [if_neg e] at H; exact H
      · rw [if_neg (fun x => by omega)] at H; exact H
  refine b34_0 (c_next hn n40 (b34_4 (br_i (fun q => b34_14 (br_i (fun x => absurd rfl x) (fun _ => c_next hn n40 (b34_23 (br_i (fun q2 => S 0 (fun x => absurd x (by decide)) (fun _ => ⟨q, q2⟩) (Or.inl rfl)) (fun q2 => ?_)))))) (fun q => b34_14 (br_i (fun _ => S 1 (fun _ => Classical.not_not.mp q) (fun x => absurd x (by decide)) (Or.inr rfl)) (fun x => absurd (by decide) x))))))
  rw [if_neg q, if_neg q2] at H
  exact H
end RD
