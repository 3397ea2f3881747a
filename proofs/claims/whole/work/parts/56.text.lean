/-! what cases tell; the pair text -/
def tolF (E : Nat → Int) : List Int → Int → Int
  | [], _ => -1
  | x :: L, s => if 1 ≤ x / 1048576 ∧ x / 1048576 ≤ 4 then tolF E L (run1 E s x) else (if s % 2 = 0 then tolF E L 0 else x % 1024)
theorem tolF_x {E : Nat → Int} : ∀ (A B : List Int) (s : Int), (∀ x ∈ A, isX x) → tolF E (A ++ B) s = tolF E B (runS E A s)
  | [], B, s, _ => rfl
  | x :: A, B, s, H => by
    show (if _ then _ else _) = _
    have hx := H x (by simp)
    unfold isX at hx
    rw [if_pos ⟨hx.1, hx.2.1⟩]
    exact tolF_x A B _ (fun y hy => H y (by simp [hy]))
def stpR (x : Int) : Prop := 1 ≤ x / 1048576 ∧ x / 1048576 ≤ 5 ∧ x < 5243904 ∧ x / 1024 % 4 ≤ 2
theorem tl_d {g : Int} (g0 : 0 ≤ g) (g1 : g ≤ 9) : (5242880 + g) / 1048576 = 5 ∧ (5242880 + g) % 1024 = g := by omega
theorem pCs_g {b : Nat → Int} {n : Nat} {most : Int} (m9 : most ≤ 9) : ∀ (k a : Nat) (st : List Int) (tl : (Nat → Int) → Int), st.length ≤ a → 3 * fcS st ≤ a → (∀ x ∈ st, stpR x) → (∀ E, tl E = -1 ∨ (0 ≤ tl E ∧ tl E ≤ most)) → (∀ E L, tolF E (st ++ L) 0 = if 0 ≤ tl E then tl E else tolF E L 0) → (pCs b n most k a st tl).1 = true → (pCs b n most k a st tl).2.2.1.length ≤ (pCs b n most k a st tl).2.1 ∧ (pCs b n most k a st tl).2.1 ≤ n ∧ 0 < (pCs b n most k a st tl).2.2.1.length ∧ 3 * fcS (pCs b n most k a st tl).2.2.1 ≤ (pCs b n most k a st tl).2.1 ∧ (∀ x ∈ (pCs b n most k a st tl).2.2.1, stpR x) ∧ (∀ E, (pCs b n most k a st tl).2.2.2 E = -1 ∨ (0 ≤ (pCs b n most k a st tl).2.2.2 E ∧ (pCs b n most k a st tl).2.2.2 E ≤ most)) ∧ ∀ E, tolF E (pCs b n most k a st tl).2.2.1 0 = (pCs b n most k a st tl).2.2.2 E
  | 0, a, st, tl, _, _, _, _, _, h => by cases h
  | k + 1, a, st, tl, h1, h2, h3, h4, h5, h => by
    unfold pCs at *
    by_cases c1 : (pTs (pPt b n 4) b n a).1 = true
    · rw [if_pos c1] at *
      obtain ⟨x1, x2, x3, x4, x5, x6⟩ := pTs_g (b := b) (pPt_g (b := b) (n := n) 4) a c1
      generalize pTs (pPt b n 4) b n a = r at *
      by_cases c2 : nxc b n r.2.1 = 63
      · rw [if_pos c2] at *
        by_cases c3 : dgt b n (r.2.1 + 1) most < 0
        · rw [if_pos c3] at h; cases h
        · rw [if_neg c3] at *
          have r4 := dgt_r c3
          generalize dgt b n (r.2.1 + 1) most = g at *
          have td := tl_d r4.1 (by omega)
          have fT0 : fcS [5242880 + g] = 0 := by simp [fcS, td.1]
          have Y1 : (st ++ (r.2.2.1 ++ [5242880 + g])).length ≤ r.2.1 + 2 := by
            simp only [List.length_append, List.length_singleton]; omega
          have Y2 : 3 * fcS (st ++ (r.2.2.1 ++ [5242880 + g])) ≤ r.2.1 + 2 := by
            rw [fcS_app, fcS_app, fT0]; omega
          have Y3 : ∀ x ∈ st ++ (r.2.2.1 ++ [5242880 + g]), stpR x := by
            intro x hx
            have hx' : x ∈ st ∨ x ∈ r.2.2.1 ∨ x = 5242880 + g := by simpa using hx
            rcases hx' with q | q | q
            · exact h3 x q
            · have := x5 x q
              unfold isX at this
              unfold stpR; omega
            · subst q; unfold stpR; omega
          have Y4 : ∀ E, (if tl E < 0 ∧ r.2.2.2 E = true then g else tl E) = -1 ∨ (0 ≤ (if tl E < 0 ∧ r.2.2.2 E = true then g else tl E) ∧ (if tl E < 0 ∧ r.2.2.2 E = true then g else tl E) ≤ most) := by
            intro E
            split
            · exact Or.inr ⟨r4.1, r4.2.1⟩
            · exact h4 E
          have Y5 : ∀ E L, tolF E ((st ++ (r.2.2.1 ++ [5242880 + g])) ++ L) 0 = if 0 ≤ (if tl E < 0 ∧ r.2.2.2 E = true then g else tl E) then (if tl E < 0 ∧ r.2.2.2 E = true then g else tl E) else tolF E L 0 := by
            intro E L
            rw [List.append_assoc, h5, List.append_assoc, tolF_x _ _ _ x5, x6 E 0 (by decide)]
            have eT : tolF E ([5242880 + g] ++ L) (2 * 0 + b2i (r.2.2.2 E)) = if r.2.2.2 E = true then g else tolF E L 0 := by
              show (if _ then _ else _) = _
              rw [if_neg (by omega)]
              cases q : r.2.2.2 E
              · rw [if_pos (by decide), if_neg (by decide)]; rfl
              · rw [if_neg (by decide), if_pos rfl, td.2]
            rw [eT]
            rcases h4 E with e | e
            · have hn : tl E < 0 := by omega
              cases q : r.2.2.2 E
              · have hq : ¬ (tl E < 0 ∧ false = true) := fun x => Bool.noConfusion x.2
                have hp : ¬ 0 ≤ tl E := by omega
                rw [if_neg hp, if_neg (by decide), if_neg hq, if_neg hp]
              · have hq : tl E < 0 ∧ true = true := ⟨hn, rfl⟩
                have hp : ¬ 0 ≤ tl E := by omega
                simp only [hq, hp, if_false, if_true, r4.1, and_self]
            · have hq : ¬ (tl E < 0 ∧ r.2.2.2 E = true) := fun x => by omega
              simp only [hq, e.1, if_false, if_true]
          by_cases c5 : n ≤ r.2.1 + 2
          · rw [if_pos c5] at *
            refine ⟨Y1, by show r.2.1 + 2 ≤ n; omega, ?_, Y2, Y3, Y4, fun E => ?_⟩
            · show 0 < (st ++ (r.2.2.1 ++ [5242880 + g])).length
              simp only [List.length_append, List.length_singleton]; omega
            · have := Y5 E []
              rw [List.append_nil] at this
              rw [show tolF E _ 0 = _ from this]
              show (if _ then _ else tolF E [] 0) = _
              rcases Y4 E with e | e
              · dsimp only
                rw [e]; rfl
              · rw [if_pos e.1]
          · rw [if_neg c5] at *
            by_cases c6 : nxc b n (r.2.1 + 2) = 59
            · rw [if_pos c6] at *
              exact pCs_g m9 k (r.2.1 + 3) _ _ (by omega) (by omega) Y3 Y4 Y5 h
            · rw [if_neg c6] at h; cases h
      · rw [if_neg c2] at h; cases h
    · rw [if_neg c1] at h; cases h
/-- no place lies beyond the end -/
def GB (n : Nat) (pp : Nat → PRS) : Prop := ∀ a, a ≤ n → (pp a).2.1 ≤ n
theorem pCm_b {b : Nat → Int} {n : Nat} {what : Int} : GB n (pCm b n what) := by
  intro a ha
  unfold pCm
  by_cases c : 0 ≤ nxc b n a - 60 ∧ nxc b n a - 60 < 3
  · have an : a < n := nxc_n (b := b) (n := n) (a := a) rfl (by omega)
    rw [if_pos c]
    unfold pNm
    by_cases c1 : dgt b n (a + 1) 9 < 0
    · rw [if_pos c1]; show a + 1 ≤ n; omega
    · have r1 := dgt_r c1
      rw [if_neg c1]
      by_cases c2 : dgt b n (a + 1 + 1) 9 < 0
      · rw [if_pos c2]; show a + 1 + 1 ≤ n; omega
      · have r2 := dgt_r c2
        rw [if_neg c2]
        by_cases c3 : dgt b n (a + 1 + 2) 9 < 0
        · rw [if_pos c3]; show a + 1 + 2 ≤ n; omega
        · have r3 := dgt_r c3
          rw [if_neg c3]; show a + 1 + 3 ≤ n; omega
  · rw [if_neg c]; exact ha
theorem pFa_b {b : Nat → Int} {n : Nat} : GB n (pFa b n) := by
  intro a ha
  unfold pFa
  by_cases c1 : nxc b n a = 115
  · have := nxc_n c1 (by decide)
    rw [if_pos c1]; exact pCm_b _ (by omega)
  · rw [if_neg c1]
    by_cases c2 : nxc b n a = 104
    · have := nxc_n c2 (by decide)
      rw [if_pos c2]; exact pCm_b _ (by omega)
    · rw [if_neg c2]
      by_cases c3 : nxc b n a = 119
      · have := nxc_n c3 (by decide)
        rw [if_pos c3]
        by_cases c4 : dgt b n (a + 1) 9 < 0
        · rw [if_pos c4]; show a + 1 ≤ n; omega
        · have r := dgt_r c4
          rw [if_neg c4]; exact pCm_b _ (by omega)
      · rw [if_neg c3]; exact ha
theorem pLp_b {c op : Int} {f : Bool → Bool → Bool} {pp : Nat → PRS} {b : Nat → Int} {n : Nat} (hc : c ≠ -1) (hg : GB n pp) : ∀ (k : Nat) (r : PRS), r.2.1 ≤ n → (pLp c op f pp b n k r).2.1 ≤ n
  | 0, r, hr => hr
  | k + 1, r, hr => by
    unfold pLp
    by_cases c1 : nxc b n r.2.1 = c
    · have := nxc_n c1 hc
      rw [if_pos c1]
      by_cases c2 : (pp (r.2.1 + 1)).1 = true
      · rw [if_pos c2]
        exact pLp_b hc hg k _ (hg _ (by omega))
      · rw [if_neg c2]; exact hg _ (by omega)
    · rw [if_neg c1]; exact hr
theorem pPs_b {pp : Nat → PRS} {b : Nat → Int} {n : Nat} (hg : GB n pp) : GB n (pPs pp b n) := by
  intro a ha
  unfold pPs
  by_cases c : (pp a).1 = true
  · rw [if_pos c]; exact pLp_b (by decide) hg _ _ (hg a ha)
  · rw [if_neg c]; exact hg a ha
theorem pTs_b {pp : Nat → PRS} {b : Nat → Int} {n : Nat} (hg : GB n pp) : GB n (pTs pp b n) := by
  intro a ha
  unfold pTs
  by_cases c : (pPs pp b n a).1 = true
  · rw [if_pos c]; exact pLp_b (by decide) (pPs_b hg) _ _ (pPs_b hg a ha)
  · rw [if_neg c]; exact pPs_b hg a ha
theorem pPt_b {b : Nat → Int} {n : Nat} : ∀ k, GB n (pPt b n k)
  | 0 => fun a ha => by
    unfold pPt
    by_cases c1 : nxc b n a = 33
    · rw [if_pos c1]; exact ha
    · rw [if_neg c1]
      by_cases c2 : nxc b n a = 40
      · rw [if_pos c2]; exact ha
      · rw [if_neg c2]; exact pFa_b a ha
  | k + 1 => fun a ha => by
    unfold pPt
    by_cases c1 : nxc b n a = 33
    · have := nxc_n c1 (by decide)
      rw [if_pos c1]
      have i := pPt_b (b := b) (n := n) k (a + 1) (by omega)
      unfold pNo
      by_cases c : (pPt b n k (a + 1)).1 = true
      · rw [if_pos c]; exact i
      · rw [if_neg c]; exact i
    · rw [if_neg c1]
      by_cases c2 : nxc b n a = 40
      · have := nxc_n c2 (by decide)
        rw [if_pos c2]
        have i := pTs_b (b := b) (pPt_b (b := b) (n := n) k) (a + 1) (by omega)
        unfold pCl
        by_cases c : (pTs (pPt b n k) b n (a + 1)).1 = true
        · rw [if_pos c]
          by_cases c3 : nxc b n (pTs (pPt b n k) b n (a + 1)).2.1 = 41
          · have := nxc_n c3 (by decide)
            rw [if_pos c3]; show (pTs (pPt b n k) b n (a + 1)).2.1 + 1 ≤ n; omega
          · rw [if_neg c3]; exact i
        · rw [if_neg c]; exact i
      · rw [if_neg c2]; exact pFa_b a ha
theorem pCs_b {b : Nat → Int} {n : Nat} {most : Int} : ∀ (k a : Nat) (st : List Int) (tl : (Nat → Int) → Int), a ≤ n → (pCs b n most k a st tl).2.1 ≤ n
  | 0, a, st, tl, ha => ha
  | k + 1, a, st, tl, ha => by
    unfold pCs
    have i := pTs_b (b := b) (pPt_b (b := b) (n := n) 4) a ha
    generalize pTs (pPt b n 4) b n a = r at *
    by_cases c1 : r.1 = true
    · rw [if_pos c1]
      by_cases c2 : nxc b n r.2.1 = 63
      · have := nxc_n c2 (by decide)
        rw [if_pos c2]
        by_cases c3 : dgt b n (r.2.1 + 1) most < 0
        · rw [if_pos c3]; show r.2.1 + 1 ≤ n; omega
        · have r4 := dgt_r c3
          rw [if_neg c3]
          by_cases c5 : n ≤ r.2.1 + 2
          · rw [if_pos c5]; show r.2.1 + 2 ≤ n; omega
          · rw [if_neg c5]
            by_cases c6 : nxc b n (r.2.1 + 2) = 59
            · have := nxc_n c6 (by decide)
              rw [if_pos c6]; exact pCs_b k _ _ _ (by omega)
            · rw [if_neg c6]; show r.2.1 + 2 ≤ n; omega
      · rw [if_neg c2]; exact i
    · rw [if_neg c1]; exact i
theorem most_r (t : Nat) : 1 ≤ mostT t ∧ mostT t ≤ 2 := by unfold mostT; split <;> omega
/-- of a text that is kept -/
theorem pCs_0 {b : Nat → Int} {n t : Nat} (h : (pCs b n (mostT t) 40 3 [] (fun _ => -1)).1 = true) : (pCs b n (mostT t) 40 3 [] (fun _ => -1)).2.2.1.length ≤ n ∧ 0 < (pCs b n (mostT t) 40 3 [] (fun _ => -1)).2.2.1.length ∧ 3 * fcS (pCs b n (mostT t) 40 3 [] (fun _ => -1)).2.2.1 ≤ n ∧ (∀ x ∈ (pCs b n (mostT t) 40 3 [] (fun _ => -1)).2.2.1, stpR x) ∧ (∀ E, (pCs b n (mostT t) 40 3 [] (fun _ => -1)).2.2.2 E = -1 ∨ (0 ≤ (pCs b n (mostT t) 40 3 [] (fun _ => -1)).2.2.2 E ∧ (pCs b n (mostT t) 40 3 [] (fun _ => -1)).2.2.2 E ≤ mostT t)) ∧ ∀ E, tolF E (pCs b n (mostT t) 40 3 [] (fun _ => -1)).2.2.1 0 = (pCs b n (mostT t) 40 3 [] (fun _ => -1)).2.2.2 E := by
  have m := most_r t
  have := pCs_g (b := b) (n := n) (most := mostT t) (by omega) 40 3 [] (fun _ => -1) (by decide) (by decide) (fun x hx => by cases hx) (fun E => Or.inl rfl) (fun E L => by rw [if_neg (by decide)]; rfl) h
  obtain ⟨q1, q2, q3, q4, q5, q6, q7⟩ := this
  exact ⟨by omega, q3, by omega, q5, q6, q7⟩
/-- nothing has changed but what a text changes -/
def STX (h g : HP) : Prop := (∀ q, q ≠ 36 → q ≠ 38 → q ≠ 39 → q ≠ 40 → q ≠ 69 → q ≠ 103 → q ≠ 104 → g q = h q) ∧ (∀ k, sc69 k = false → k ≠ 46 → g 69 k = h 69 k)
theorem R_text {h g : HP} (a : STX h g) (hR : R h) (e1 : g 36 1 = 0) (e2 : g 69 46 = 0) (ht : txR (g 39) (g 40) (g 103) (g 104)) (ho : ownT (g 40) (h 8) (h 2 0)) : R g := by
  obtain ⟨⟨r1, r2, r3, r4, r5, r6, r7, r8⟩, ⟨r9, r10, r11, r12, r13⟩, ⟨r14, r15, r16, r17, r18, r19, r20⟩, ⟨r21, r22, r23, r24, r25, r26⟩, ⟨r27, r28, r29, r30, r31⟩, ⟨r32, r33⟩, ⟨r34, r35, r36, r37, r38, r39, r40, r41, r42, r43, r44, r45⟩, ⟨r46, r47, r48⟩, ⟨r49, r50, r51, r52, r53, r54, r55⟩, ⟨r56, r57, r58, r59, r60, r61, r62, r63, r64, r65⟩, ⟨r66, r67, r68, r69, r70, r71, r72, r73, r74, r75⟩, ⟨r76, r77, r78, r79, r80, r81, r82, r83⟩, ⟨r84, r85, r86, r87, r88, r89⟩, ⟨r90, r91, r92, r93, r94, r95, r96, r97, r98⟩, ⟨r99, r100, r101, r102, r103, r104, r105, r106⟩, ⟨r107, r108, r109, r110, r111, r112, r113⟩, ⟨r114, r115, r116, r117, r118, r119, r120, r121, r122, r123⟩⟩ := id hR
  unfold R
  simp only [a.1 0 (by decide) (by decide) (by decide) (by decide) (by decide) (by decide) (by decide), a.1 2 (by decide) (by decide) (by decide) (by decide) (by decide) (by decide) (by decide), a.1 3 (by decide) (by decide) (by decide) (by decide) (by decide) (by decide) (by decide), a.1 4 (by decide) (by decide) (by decide) (by decide) (by decide) (by decide) (by decide), a.1 5 (by decide) (by decide) (by decide) (by decide) (by decide) (by decide) (by decide), a.1 6 (by decide) (by decide) (by decide) (by decide) (by decide) (by decide) (by decide), a.1 7 (by decide) (by decide) (by decide) (by decide) (by decide) (by decide) (by decide), a.1 8 (by decide) (by decide) (by decide) (by decide) (by decide) (by decide) (by decide), a.1 9 (by decide) (by decide) (by decide) (by decide) (by decide) (by decide) (by decide), a.1 10 (by decide) (by decide) (by decide) (by decide) (by decide) (by decide) (by decide), a.1 11 (by decide) (by decide) (by decide) (by decide) (by decide) (by decide) (by decide), a.1 12 (by decide) (by decide) (by decide) (by decide) (by decide) (by decide) (by decide), a.1 13 (by decide) (by decide) (by decide) (by decide) (by decide) (by decide) (by decide), a.1 14 (by decide) (by decide) (by decide) (by decide) (by decide) (by decide) (by decide), a.1 15 (by decide) (by decide) (by decide) (by decide) (by decide) (by decide) (by decide), a.1 16 (by decide) (by decide) (by decide) (by decide) (by decide) (by decide) (by decide), a.1 17 (by decide) (by decide) (by decide) (by decide) (by decide) (by decide) (by decide), a.1 18 (by decide) (by decide) (by decide) (by decide) (by decide) (by decide) (by decide), a.1 19 (by decide) (by decide) (by decide) (by decide) (by decide) (by decide) (by decide), a.1 20 (by decide) (by decide) (by decide) (by decide) (by decide) (by decide) (by decide), a.1 21 (by decide) (by decide) (by decide) (by decide) (by decide) (by decide) (by decide), a.1 22 (by decide) (by decide) (by decide) (by decide) (by decide) (by decide) (by decide), a.1 23 (by decide) (by decide) (by decide) (by decide) (by decide) (by decide) (by decide), a.1 24 (by decide) (by decide) (by decide) (by decide) (by decide) (by decide) (by decide), a.1 25 (by decide) (by decide) (by decide) (by decide) (by decide) (by decide) (by decide), a.1 26 (by decide) (by decide) (by decide) (by decide) (by decide) (by decide) (by decide), a.1 27 (by decide) (by decide) (by decide) (by decide) (by decide) (by decide) (by decide), a.1 28 (by decide) (by decide) (by decide) (by decide) (by decide) (by decide) (by decide), a.1 29 (by decide) (by decide) (by decide) (by decide) (by decide) (by decide) (by decide), a.1 30 (by decide) (by decide) (by decide) (by decide) (by decide) (by decide) (by decide), a.1 31 (by decide) (by decide) (by decide) (by decide) (by decide) (by decide) (by decide), a.1 32 (by decide) (by decide) (by decide) (by decide) (by decide) (by decide) (by decide), a.1 33 (by decide) (by decide) (by decide) (by decide) (by decide) (by decide) (by decide), a.1 34 (by decide) (by decide) (by decide) (by decide) (by decide) (by decide) (by decide), a.1 35 (by decide) (by decide) (by decide) (by decide) (by decide) (by decide) (by decide), a.1 37 (by decide) (by decide) (by decide) (by decide) (by decide) (by decide) (by decide), a.1 57 (by decide) (by decide) (by decide) (by decide) (by decide) (by decide) (by decide), a.1 58 (by decide) (by decide) (by decide) (by decide) (by decide) (by decide) (by decide), a.1 59 (by decide) (by decide) (by decide) (by decide) (by decide) (by decide) (by decide), a.1 60 (by decide) (by decide) (by decide) (by decide) (by decide) (by decide) (by decide), a.1 61 (by decide) (by decide) (by decide) (by decide) (by decide) (by decide) (by decide), a.1 62 (by decide) (by decide) (by decide) (by decide) (by decide) (by decide) (by decide), a.1 63 (by decide) (by decide) (by decide) (by decide) (by decide) (by decide) (by decide), a.1 64 (by decide) (by decide) (by decide) (by decide) (by decide) (by decide) (by decide), a.1 65 (by decide) (by decide) (by decide) (by decide) (by decide) (by decide) (by decide), a.1 66 (by decide) (by decide) (by decide) (by decide) (by decide) (by decide) (by decide), a.1 67 (by decide) (by decide) (by decide) (by decide) (by decide) (by decide) (by decide), a.1 68 (by decide) (by decide) (by decide) (by decide) (by decide) (by decide) (by decide), a.1 70 (by decide) (by decide) (by decide) (by decide) (by decide) (by decide) (by decide), a.1 71 (by decide) (by decide) (by decide) (by decide) (by decide) (by decide) (by decide), a.1 72 (by decide) (by decide) (by decide) (by decide) (by decide) (by decide) (by decide), a.1 73 (by decide) (by decide) (by decide) (by decide) (by decide) (by decide) (by decide), a.1 74 (by decide) (by decide) (by decide) (by decide) (by decide) (by decide) (by decide), a.1 75 (by decide) (by decide) (by decide) (by decide) (by decide) (by decide) (by decide), a.1 76 (by decide) (by decide) (by decide) (by decide) (by decide) (by decide) (by decide), a.1 77 (by decide) (by decide) (by decide) (by decide) (by decide) (by decide) (by decide), a.1 78 (by decide) (by decide) (by decide) (by decide) (by decide) (by decide) (by decide), a.1 79 (by decide) (by decide) (by decide) (by decide) (by decide) (by decide) (by decide), a.1 80 (by decide) (by decide) (by decide) (by decide) (by decide) (by decide) (by decide), a.1 81 (by decide) (by decide) (by decide) (by decide) (by decide) (by decide) (by decide), a.1 82 (by decide) (by decide) (by decide) (by decide) (by decide) (by decide) (by decide), a.1 83 (by decide) (by decide) (by decide) (by decide) (by decide) (by decide) (by decide), a.1 84 (by decide) (by decide) (by decide) (by decide) (by decide) (by decide) (by decide), a.1 85 (by decide) (by decide) (by decide) (by decide) (by decide) (by decide) (by decide), a.1 86 (by decide) (by decide) (by decide) (by decide) (by decide) (by decide) (by decide), a.1 87 (by decide) (by decide) (by decide) (by decide) (by decide) (by decide) (by decide), a.1 88 (by decide) (by decide) (by decide) (by decide) (by decide) (by decide) (by decide), a.1 89 (by decide) (by decide) (by decide) (by decide) (by decide) (by decide) (by decide), a.1 90 (by decide) (by decide) (by decide) (by decide) (by decide) (by decide) (by decide), a.1 91 (by decide) (by decide) (by decide) (by decide) (by decide) (by decide) (by decide), a.1 92 (by decide) (by decide) (by decide) (by decide) (by decide) (by decide) (by decide), a.1 93 (by decide) (by decide) (by decide) (by decide) (by decide) (by decide) (by decide), a.1 94 (by decide) (by decide) (by decide) (by decide) (by decide) (by decide) (by decide), a.1 95 (by decide) (by decide) (by decide) (by decide) (by decide) (by decide) (by decide), a.1 96 (by decide) (by decide) (by decide) (by decide) (by decide) (by decide) (by decide), a.1 97 (by decide) (by decide) (by decide) (by decide) (by decide) (by decide) (by decide), a.1 98 (by decide) (by decide) (by decide) (by decide) (by decide) (by decide) (by decide), a.1 99 (by decide) (by decide) (by decide) (by decide) (by decide) (by decide) (by decide), a.1 100 (by decide) (by decide) (by decide) (by decide) (by decide) (by decide) (by decide), a.1 101 (by decide) (by decide) (by decide) (by decide) (by decide) (by decide) (by decide), a.1 102 (by decide) (by decide) (by decide) (by decide) (by decide) (by decide) (by decide), a.1 115 (by decide) (by decide) (by decide) (by decide) (by decide) (by decide) (by decide), a.1 116 (by decide) (by decide) (by decide) (by decide) (by decide) (by decide) (by decide), a.1 117 (by decide) (by decide) (by decide) (by decide) (by decide) (by decide) (by decide), a.1 118 (by decide) (by decide) (by decide) (by decide) (by decide) (by decide) (by decide), a.1 119 (by decide) (by decide) (by decide) (by decide) (by decide) (by decide) (by decide), a.2 9 rfl (by decide), a.2 17 rfl (by decide), a.2 22 rfl (by decide), a.2 26 rfl (by decide), a.2 30 rfl (by decide), a.2 31 rfl (by decide), a.2 32 rfl (by decide), a.2 33 rfl (by decide), a.2 34 rfl (by decide), a.2 35 rfl (by decide), a.2 37 rfl (by decide), a.2 43 rfl (by decide), a.2 44 rfl (by decide), a.2 70 rfl (by decide), a.2 83 rfl (by decide)]
  have r44 : g 36 1 = g 69 46 := by rw [e1, e2]
  have r72 : 0 ≤ g 36 1 := by omega
  have r73 : g 36 1 ≤ 40 := by omega
  have r120 := ht
  have r122 := ho
  exact ⟨⟨r1, r2, r3, r4, r5, r6, r7, r8⟩, ⟨r9, r10, r11, r12, r13⟩, ⟨r14, r15, r16, r17, r18, r19, r20⟩, ⟨r21, r22, r23, r24, r25, r26⟩, ⟨r27, r28, r29, r30, r31⟩, ⟨r32, r33⟩, ⟨r34, r35, r36, r37, r38, r39, r40, r41, r42, r43, r44, r45⟩, ⟨r46, r47, r48⟩, ⟨r49, r50, r51, r52, r53, r54, r55⟩, ⟨r56, r57, r58, r59, r60, r61, r62, r63, r64, r65⟩, ⟨r66, r67, r68, r69, r70, r71, r72, r73, r74, r75⟩, ⟨r76, r77, r78, r79, r80, r81, r82, r83⟩, ⟨r84, r85, r86, r87, r88, r89⟩, ⟨r90, r91, r92, r93, r94, r95, r96, r97, r98⟩, ⟨r99, r100, r101, r102, r103, r104, r105, r106⟩, ⟨r107, r108, r109, r110, r111, r112, r113⟩, ⟨r114, r115, r116, r117, r118, r119, r120, r121, r122, r123⟩⟩
section P56
variable {d : Nat} {h : HP} {Q : PV → HP → Prop} {n : Nat}
/-- the class's cells behind a text -/
def FTX (h g : HP) : Prop := (∀ q, q ≠ 36 → q ≠ 38 → q ≠ 39 → q ≠ 40 → g q = h q) ∧ g 36 1 = 0
theorem FTX_c {a m : Nat} {dr : Nat → Int} : FTX h (up2 (CHP h a m dr) 36 1 0) := ⟨fun q h1 h2 _ _ => by rw [up_p h1, CHP_p h2 h1], up_s⟩
theorem up_CHP0 : up2 (up2 h 36 2 0) 36 3 0 = CHP h 0 0 (h 38) := by
  funext q j
  unfold up2 CHP
  by_cases c1 : q = 36 ∧ j = 3
  · obtain ⟨c, c'⟩ := c1
    subst c c'
    simp
  · by_cases c2 : q = 36 ∧ j = 2
    · obtain ⟨c, c'⟩ := c2
      subst c c'
      simp
    · by_cases c3 : q = 38
      · subst c3; simp
      · simp only [c1, c2, c3, if_false]
set_option maxHeartbeats 4000000 in
theorem c_text (hR : R h) (hn : h 36 1 = n) (H0 : (sbj (h 37) n (h 26 2) (h 2 0) (h 8)).1 < 0 → ∀ g, FTX h g → g 39 = h 39 → g 40 = h 40 → Q (I (-20 - ((sbj (h 37) n (h 26 2) (h 2 0) (h 8)).2 : Int))) g) (H1 : ∀ t : Nat, (sbj (h 37) n (h 26 2) (h 2 0) (h 8)).1 = t → (pCs (h 37) n (mostT t) 40 3 [] (fun _ => -1)).1 = false → ∀ g, FTX h g → g 39 = h 39 → g 40 = h 40 → Q (I (-20 - ((pCs (h 37) n (mostT t) 40 3 [] (fun _ => -1)).2.1 : Int))) g) (H2 : ∀ t : Nat, (sbj (h 37) n (h 26 2) (h 2 0) (h 8)).1 = t → t < 12 → (pCs (h 37) n (mostT t) 40 3 [] (fun _ => -1)).1 = true → ∀ g, FTX h g → (∀ j, j < 40 * t ∨ 40 * t + 40 ≤ j → g 39 j = h 39 j) → (∀ j, j < (pCs (h 37) n (mostT t) 40 3 [] (fun _ => -1)).2.2.1.length → g 39 (40 * t + j) = (pCs (h 37) n (mostT t) 40 3 [] (fun _ => -1)).2.2.1.getD j 0) → g 40 = st1 (h 40) t ((pCs (h 37) n (mostT t) 40 3 [] (fun _ => -1)).2.2.1.length : Int) → Q (I 1) g) : X (d + 21) 95 0 [some (P 0), none] [] h Q := by
  have F : (0 ≤ h 36 1 ∧ h 36 1 ≤ 40) ∧ rgA (h 37) 0 255 ∧ h 2 0 ≤ 8 ∧ h 26 2 ≤ 4 := by
    obtain ⟨⟨r1, r2, r3, r4, r5, r6, r7, r8⟩, ⟨r9, r10, r11, r12, r13⟩, ⟨r14, r15, r16, r17, r18, r19, r20⟩, ⟨r21, r22, r23, r24, r25, r26⟩, ⟨r27, r28, r29, r30, r31⟩, ⟨r32, r33⟩, ⟨r34, r35, r36, r37, r38, r39, r40, r41, r42, r43, r44, r45⟩, ⟨r46, r47, r48⟩, ⟨r49, r50, r51, r52, r53, r54, r55⟩, ⟨r56, r57, r58, r59, r60, r61, r62, r63, r64, r65⟩, ⟨r66, r67, r68, r69, r70, r71, r72, r73, r74, r75⟩, ⟨r76, r77, r78, r79, r80, r81, r82, r83⟩, ⟨r84, r85, r86, r87, r88, r89⟩, ⟨r90, r91, r92, r93, r94, r95, r96, r97, r98⟩, ⟨r99, r100, r101, r102, r103, r104, r105, r106⟩, ⟨r107, r108, r109, r110, r111, r112, r113⟩, ⟨r114, r115, r116, r117, r118, r119, r120, r121, r122, r123⟩⟩ := id hR
    exact ⟨⟨r72, r73⟩, r115, r57, r65⟩
  obtain ⟨⟨n0, n40'⟩, hb, np8, nh4⟩ := F
  have n40 : n ≤ 40 := by omega
  refine b95_0 (b26_0 ?_)
  rw [up_CHP0]
  have SR := sbj_r (n := n) (b := h 37) (nh := h 26 2) (np := h 2 0) (fl := h 8) nh4 np8
  refine c_subj (d := d + 16) hb hn n40 np8 (b26_14 ?_)
  generalize eS : sbj (h 37) n (h 26 2) (h 2 0) (h 8) = S at *
  -- a fault at a place
  have FAIL : ∀ (v1 : Int) (a m : Nat) (dr : Nat → Int), (a : Int) < 100 → (∀ g, FTX h g → g 39 = h 39 → g 40 = h 40 → Q (I (-20 - (a : Int))) g) → X (d + 20) 26 40 [some (P 36), some (I v1), none] [] (CHP h a m dr) (fun r h' => X (d + 21) 95 7 [some (P 0), none] [r] h' Q) := by
    intro v1 a m dr ha HQ
    refine b26_40 (b26_41 (br_i (fun x => absurd rfl x) (fun _ => ?_)))
    rw [CHP_2]
    refine b95_7 (br_i (fun _ => ?_) (fun x => absurd (by omega) x))
    rw [w32_of (by omega) (by omega)]
    exact HQ _ FTX_c (by rw [up_p (by decide), CHP_p (by decide) (by decide)]) (by rw [up_p (by decide), CHP_p (by decide) (by decide)])
  rcases SR with ⟨s1, s2⟩ | ⟨s0, s12, s3, n3⟩
  · refine br_i (fun _ => FAIL _ _ _ _ (by omega) (H0 (by omega))) (fun x => absurd (by omega) x)
  · obtain ⟨t, et⟩ := Int.eq_ofNat_of_zero_le s0
    have t12 : t < 12 := by omega
    have HC1 := H1 t et
    have HC2 := H2 t et t12
    rw [s3, et]
    have M : ∀ mo, mo = mostT t → X (d + 20) 26 30 [some (P 36), some (I (t : Int)), none] [I mo, P 36] (CHP h 3 0 (h 38)) (fun r h' => X (d + 21) 95 7 [some (P 0), none] [r] h' Q) := by
      intro mo hmo
      subst hmo
      have mr := most_r t
      refine b26_30 (b36_0 (c_cases (d := d) hb hn n40 (by omega) (h 38) 40 0 rfl 3 [] (fun _ => -1) (by decide) (by decide) ?_))
      have G := pCs_0 (b := h 37) (n := n) (t := t)
      have GBd := pCs_b (b := h 37) (n := n) (most := mostT t) 40 3 [] (fun _ => -1) n3
      generalize pCs (h 37) n (mostT t) 40 3 [] (fun _ => -1) = C at *
      refine ⟨fun c => b26_33 (br_i (fun x => absurd x (by decide)) (fun _ => ?_)), fun c m' dr' => b26_33 (br_i (fun _ => FAIL _ _ _ _ ?_ (HC1 c)) (fun x => absurd rfl x))⟩
      · obtain ⟨g1, g2, g3, -⟩ := G c
        refine b26_41 (br_i (fun _ => ?_) (fun x => absurd (by decide) x))
        have ew : w32 ((t : Int) * 40) = ((40 * t : Nat) : Int) := by rw [w32_of (by omega) (by omega)]; omega
        rw [CHP_3, ew]
        simp only [Int.toNat_natCast]
        refine ⟨⟨by decide, by omega, by omega, by omega, by omega⟩, an_i (by omega) (by omega) (b95_7 (br_i (fun x => absurd x (by decide)) (fun _ => HC2 c _ ⟨fun q q1 q2 q3 q4 => ?_, ?_⟩ (fun j hj => ?_) (fun j hj => ?_) ?_)))⟩
        · rw [up_p q4, cpy_p q3, up_p q1, CHP_p q2 q1]
        · rw [up_p (by decide), cpy_p (by decide), up_s]
        · rw [up_p (by decide)]
          unfold cpy
          rw [if_neg (by omega), up_p (by decide), CHP_p (by decide) (by decide)]
        · rw [up_p (by decide)]
          unfold cpy
          rw [if_pos ⟨rfl, by omega, by omega⟩, up_p (by decide), CHP_38]
          have := appR_g C.2.2.1 (h 38) 0 j hj
          rw [Nat.zero_add] at this
          rw [show 0 + (40 * t + j - 40 * t) = j by omega]
          exact this
        · rw [up_st, cpy_p (by decide), up_p (by decide), CHP_p (by decide) (by decide)]
      · omega
    refine br_i (fun x => absurd x (by omega)) (fun _ => br_i (fun q => M 2 ?_) (fun q => M 1 ?_))
    · unfold mostT; rw [if_neg (by omega)]
    · unfold mostT; rw [if_pos (by omega)]
end P56
