/-! texts: what the pure reader gives; its steps run -/
/-- how many of the steps are facts -/
def fcS : List Int → Nat
  | [] => 0
  | x :: L => (if x / 1048576 = 1 then 1 else 0) + fcS L
theorem fcS_app : ∀ A B : List Int, fcS (A ++ B) = fcS A + fcS B
  | [], B => by simp [fcS]
  | x :: A, B => by simp only [List.cons_append, fcS]; rw [fcS_app A B]; omega
def b2i (c : Bool) : Int := if c = true then 1 else 0
/-- one step on the stack -/
def run1 (E : Nat → Int) (s x : Int) : Int :=
  if x / 1048576 = 1 then 2 * s + b2i (cmpF (E (x / 4096 % 16).toNat) (x / 1024 % 4) (x % 1024))
  else if x / 1048576 = 2 then (if s % 2 = 0 then s + 1 else s - 1)
  else if x / 1048576 = 3 then (if s % 2 = 0 then 2 * (s / 4) else s / 2)
  else (if s % 2 = 0 then s / 2 else 2 * (s / 4) + 1)
def runS (E : Nat → Int) (L : List Int) (s : Int) : Int := L.foldl (run1 E) s
theorem runS_app (E : Nat → Int) (A B : List Int) (s : Int) : runS E (A ++ B) s = runS E B (runS E A s) := List.foldl_append
def isX (x : Int) : Prop := 1 ≤ x / 1048576 ∧ x / 1048576 ≤ 4 ∧ x / 1024 % 4 ≤ 2
/-- what a reader of expressions keeps -/
def FG (n a : Nat) (r : PRS) : Prop := a < r.2.1 ∧ r.2.1 ≤ n ∧ r.2.2.1.length + a ≤ r.2.1 ∧ 3 * fcS r.2.2.1 + a ≤ r.2.1 ∧ (∀ x ∈ r.2.2.1, isX x) ∧ ∀ E s, 0 ≤ s → runS E r.2.2.1 s = 2 * s + b2i (r.2.2.2 E)
def GP (n : Nat) (pp : Nat → PRS) : Prop := ∀ a, (pp a).1 = true → FG n a (pp a)
theorem nxc_n {b : Nat → Int} {n a : Nat} {c : Int} (h : nxc b n a = c) (hc : c ≠ -1) : a < n := by
  unfold nxc at h
  by_cases q : a < n
  · exact q
  · rw [if_neg q] at h; exact absurd h.symm hc
theorem dgt_r {b : Nat → Int} {n a : Nat} {m : Int} (h : ¬ dgt b n a m < 0) : 0 ≤ dgt b n a m ∧ dgt b n a m ≤ m ∧ dgt b n a m = nxc b n a - 48 ∧ a < n := by
  unfold dgt at *
  by_cases q : 0 ≤ nxc b n a - 48 ∧ nxc b n a - 48 ≤ m
  · rw [if_pos q] at *
    refine ⟨q.1, q.2, rfl, ?_⟩
    by_cases c : a < n
    · exact c
    · have : nxc b n a = -1 := by unfold nxc; rw [if_neg c]
      omega
  · rw [if_neg q] at h; exact absurd (by decide) h
theorem stF_d {what sg num : Int} (w0 : 0 ≤ what) (w1 : what < 16) (s0 : 0 ≤ sg) (s1 : sg < 4) (n0 : 0 ≤ num) (n1 : num < 1024) : stF what sg num / 1048576 = 1 ∧ stF what sg num / 4096 % 16 = what ∧ stF what sg num / 1024 % 4 = sg ∧ stF what sg num % 1024 = num := by
  unfold stF
  omega
theorem pOk_g {n a a' : Nat} {what sg num : Int} (w0 : 0 ≤ what) (w1 : what < 16) (s0 : 0 ≤ sg) (s1 : sg < 3) (n0 : 0 ≤ num) (n1 : num < 1024) (ha : a + 3 ≤ a') (hn : a' ≤ n) : FG n a (pOk what sg num a') := by
  obtain ⟨d1, d2, d3, d4⟩ := stF_d w0 w1 s0 (by omega) n0 n1
  unfold pOk FG
  refine ⟨by show a < a'; omega, hn, by show 1 + a ≤ a'; omega, ?_, fun x hx => ?_, fun E s hs => ?_⟩
  · show 3 * ((if stF what sg num / 1048576 = 1 then 1 else 0) + 0) + a ≤ a'
    rw [if_pos d1]; omega
  · have : x = stF what sg num := by simpa using hx
    subst this
    unfold isX; omega
  · show run1 E s (stF what sg num) = _
    unfold run1
    rw [if_pos d1, d2, d3, d4]
theorem pNm_g {b : Nat → Int} {n a0 a : Nat} {what sg : Int} (w0 : 0 ≤ what) (w1 : what < 16) (s0 : 0 ≤ sg) (s1 : sg < 3) (ha : a0 + 2 ≤ a) (h : (pNm b n what sg a).1 = true) : FG n a0 (pNm b n what sg a) := by
  unfold pNm at *
  by_cases c1 : dgt b n a 9 < 0
  · rw [if_pos c1] at h; cases h
  · have r1 := dgt_r c1
    rw [if_neg c1] at *
    by_cases c2 : dgt b n (a + 1) 9 < 0
    · rw [if_pos c2] at *
      exact pOk_g w0 w1 s0 s1 (by omega) (by omega) (by omega) (by omega)
    · have r2 := dgt_r c2
      rw [if_neg c2] at *
      by_cases c3 : dgt b n (a + 2) 9 < 0
      · rw [if_pos c3] at *
        exact pOk_g w0 w1 s0 s1 (by omega) (by omega) (by omega) (by omega)
      · have r3 := dgt_r c3
        rw [if_neg c3] at *
        exact pOk_g w0 w1 s0 s1 (by omega) (by omega) (by omega) (by omega)
theorem pCm_g {b : Nat → Int} {n a0 a : Nat} {what : Int} (w0 : 0 ≤ what) (w1 : what < 16) (ha : a0 + 1 ≤ a) (h : (pCm b n what a).1 = true) : FG n a0 (pCm b n what a) := by
  unfold pCm at *
  by_cases c : 0 ≤ nxc b n a - 60 ∧ nxc b n a - 60 < 3
  · rw [if_pos c] at *
    exact pNm_g w0 w1 c.1 (by omega) (by omega) h
  · rw [if_neg c] at h; cases h
theorem pFa_g {b : Nat → Int} {n : Nat} : GP n (pFa b n) := by
  intro a h
  unfold pFa at *
  by_cases c1 : nxc b n a = 115
  · rw [if_pos c1] at *
    exact pCm_g (by decide) (by decide) (by omega) h
  · rw [if_neg c1] at *
    by_cases c2 : nxc b n a = 104
    · rw [if_pos c2] at *
      exact pCm_g (by decide) (by decide) (by omega) h
    · rw [if_neg c2] at *
      by_cases c3 : nxc b n a = 119
      · rw [if_pos c3] at *
        by_cases c4 : dgt b n (a + 1) 9 < 0
        · rw [if_pos c4] at h; cases h
        · have r := dgt_r c4
          rw [if_neg c4] at *
          exact pCm_g r.1 (by omega) (by omega) h
      · rw [if_neg c3] at h; cases h
/-- an operation on the two uppermost bits -/
def opG (op : Int) (f : Bool → Bool → Bool) : Prop := (op = 3145728 ∨ op = 4194304) ∧ ∀ E s x y, 0 ≤ s → run1 E (2 * (2 * s + b2i x) + b2i y) op = 2 * s + b2i (f x y)
theorem op_and : opG 3145728 and := by
  refine ⟨by decide, fun E s x y hs => ?_⟩
  unfold run1
  rw [if_neg (by decide), if_neg (by decide), if_pos (by decide)]
  cases x <;> cases y <;> simp only [b2i, and, Bool.and_true, Bool.and_false, Bool.true_and, Bool.false_and, if_true, Bool.false_eq_true, if_false] <;> split <;> omega
theorem op_or : opG 4194304 or := by
  refine ⟨by decide, fun E s x y hs => ?_⟩
  unfold run1
  rw [if_neg (by decide), if_neg (by decide), if_neg (by decide)]
  cases x <;> cases y <;> simp only [b2i, or, Bool.or_true, Bool.or_false, Bool.true_or, Bool.false_or, if_true, Bool.false_eq_true, if_false] <;> split <;> omega
theorem b2i_r (c : Bool) : 0 ≤ b2i c ∧ b2i c ≤ 1 := by cases c <;> decide
theorem FG_s {op : Int} {f : Bool → Bool → Bool} {pp : Nat → PRS} {n a : Nat} {r : PRS} (hg : GP n pp) (ho : opG op f) (hr : FG n a r) (c2 : (pp (r.2.1 + 1)).1 = true) : FG n a (true, (pp (r.2.1 + 1)).2.1, r.2.2.1 ++ ((pp (r.2.1 + 1)).2.2.1 ++ [op]), fun E => f (r.2.2.2 E) ((pp (r.2.1 + 1)).2.2.2 E)) := by
  obtain ⟨x1, x2, x3, x4, x5, x6⟩ := hr
  obtain ⟨y1, y2, y3, y4, y5, y6⟩ := hg _ c2
  have o1 : ¬ op / 1048576 = 1 := by rcases ho.1 with e | e <;> subst e <;> decide
  refine ⟨by show a < (pp (r.2.1 + 1)).2.1; omega, y2, ?_, ?_, ?_, fun E s hs => ?_⟩
  · show (r.2.2.1 ++ ((pp (r.2.1 + 1)).2.2.1 ++ [op])).length + a ≤ (pp (r.2.1 + 1)).2.1
    simp only [List.length_append, List.length_singleton]
    omega
  · show 3 * fcS (r.2.2.1 ++ ((pp (r.2.1 + 1)).2.2.1 ++ [op])) + a ≤ (pp (r.2.1 + 1)).2.1
    rw [fcS_app, fcS_app]
    have : fcS [op] = 0 := by simp [fcS, o1]
    omega
  · intro x hx
    have hx' : x ∈ r.2.2.1 ∨ x ∈ (pp (r.2.1 + 1)).2.2.1 ∨ x = op := by simpa using hx
    rcases hx' with q | q | q
    · exact x5 x q
    · exact y5 x q
    · subst q
      unfold isX
      rcases ho.1 with e | e <;> subst e <;> decide
  · show runS E (r.2.2.1 ++ ((pp (r.2.1 + 1)).2.2.1 ++ [op])) s = _
    have br := b2i_r (r.2.2.2 E)
    rw [runS_app, runS_app, x6 E s hs, y6 E _ (by omega)]
    exact ho.2 E s _ _ hs
theorem pLp_g {c op : Int} {f : Bool → Bool → Bool} {pp : Nat → PRS} {b : Nat → Int} {n a : Nat} (hg : GP n pp) (ho : opG op f) : ∀ (k : Nat) (r : PRS), FG n a r → (pLp c op f pp b n k r).1 = true → FG n a (pLp c op f pp b n k r)
  | 0, r, hr, h => hr
  | k + 1, r, hr, h => by
    unfold pLp at *
    by_cases c1 : nxc b n r.2.1 = c
    · rw [if_pos c1] at *
      by_cases c2 : (pp (r.2.1 + 1)).1 = true
      · rw [if_pos c2] at *
        exact pLp_g hg ho k _ (FG_s hg ho hr c2) h
      · rw [if_neg c2] at h; cases h
    · rw [if_neg c1] at *
      exact hr
theorem pPs_g {pp : Nat → PRS} {b : Nat → Int} {n : Nat} (hg : GP n pp) : GP n (pPs pp b n) := by
  intro a h
  unfold pPs at *
  by_cases c : (pp a).1 = true
  · rw [if_pos c] at *
    exact pLp_g hg op_and 40 _ (hg a c) h
  · rw [if_neg c] at h; cases h
theorem pTs_g {pp : Nat → PRS} {b : Nat → Int} {n : Nat} (hg : GP n pp) : GP n (pTs pp b n) := by
  intro a h
  unfold pTs at *
  by_cases c : (pPs pp b n a).1 = true
  · rw [if_pos c] at *
    exact pLp_g (pPs_g hg) op_or 40 _ (pPs_g hg a c) h
  · rw [if_neg c] at h; cases h
theorem pNo_g {n a : Nat} {r : PRS} (hr : r.1 = true → FG n (a + 1) r) (h : (pNo r).1 = true) : FG n a (pNo r) := by
  unfold pNo at *
  by_cases c : r.1 = true
  · rw [if_pos c] at *
    obtain ⟨x1, x2, x3, x4, x5, x6⟩ := hr c
    refine ⟨by show a < r.2.1; omega, x2, ?_, ?_, ?_, fun E s hs => ?_⟩
    · show (r.2.2.1 ++ [2097152]).length + a ≤ r.2.1
      simp only [List.length_append, List.length_singleton]
      omega
    · show 3 * fcS (r.2.2.1 ++ [2097152]) + a ≤ r.2.1
      rw [fcS_app]
      have : fcS [2097152] = 0 := by decide
      omega
    · intro x hx
      have hx' : x ∈ r.2.2.1 ∨ x = 2097152 := by simpa using hx
      rcases hx' with q | q
      · exact x5 x q
      · subst q; unfold isX; decide
    · show runS E (r.2.2.1 ++ [2097152]) s = 2 * s + b2i (!(r.2.2.2 E))
      rw [runS_app, x6 E s hs]
      show run1 E (2 * s + b2i (r.2.2.2 E)) 2097152 = _
      unfold run1
      rw [if_neg (by decide), if_pos (by decide)]
      cases r.2.2.2 E <;> simp only [b2i, Bool.not_true, Bool.not_false, if_true, Bool.false_eq_true, if_false] <;> split <;> omega
  · rw [if_neg c] at h; cases h
theorem pCl_g {b : Nat → Int} {n a : Nat} {r : PRS} (hr : r.1 = true → FG n (a + 1) r) (h : (pCl b n r).1 = true) : FG n a (pCl b n r) := by
  unfold pCl at *
  by_cases c : r.1 = true
  · rw [if_pos c] at *
    by_cases c2 : nxc b n r.2.1 = 41
    · have := nxc_n c2 (by decide)
      rw [if_pos c2] at *
      obtain ⟨x1, x2, x3, x4, x5, x6⟩ := hr c
      refine ⟨by show a < r.2.1 + 1; omega, by show r.2.1 + 1 ≤ n; omega, by show r.2.2.1.length + a ≤ r.2.1 + 1; omega, by show 3 * fcS r.2.2.1 + a ≤ r.2.1 + 1; omega, x5, x6⟩
    · rw [if_neg c2] at h; cases h
  · rw [if_neg c] at h; cases h
theorem pPt_g {b : Nat → Int} {n : Nat} : ∀ k, GP n (pPt b n k)
  | 0 => fun a h => by
    unfold pPt at *
    by_cases c1 : nxc b n a = 33
    · rw [if_pos c1] at h; cases h
    · rw [if_neg c1] at *
      by_cases c2 : nxc b n a = 40
      · rw [if_pos c2] at h; cases h
      · rw [if_neg c2] at *
        exact pFa_g a h
  | k + 1 => fun a h => by
    unfold pPt at *
    by_cases c1 : nxc b n a = 33
    · rw [if_pos c1] at *
      exact pNo_g (pPt_g k (a + 1)) h
    · rw [if_neg c1] at *
      by_cases c2 : nxc b n a = 40
      · rw [if_pos c2] at *
        exact pCl_g (pTs_g (pPt_g k) (a + 1)) h
      · rw [if_neg c2] at *
        exact pFa_g a h
/-- readers hang on bytes within the text alone -/
theorem pFa_c {b b' : Nat → Int} {n : Nat} (e : nxc b n = nxc b' n) : pFa b n = pFa b' n := by
  funext a
  unfold pFa pCm pNm dgt
  rw [e]
theorem pLp_c {c op : Int} {f : Bool → Bool → Bool} {pp : Nat → PRS} {b b' : Nat → Int} {n : Nat} (e : nxc b n = nxc b' n) : ∀ k r, pLp c op f pp b n k r = pLp c op f pp b' n k r
  | 0, r => rfl
  | k + 1, r => by
    unfold pLp
    rw [e]
    simp only [pLp_c e k]
theorem pPs_c {pp : Nat → PRS} {b b' : Nat → Int} {n : Nat} (e : nxc b n = nxc b' n) : pPs pp b n = pPs pp b' n := by
  funext a
  unfold pPs
  simp only [pLp_c e]
theorem pTs_c {pp : Nat → PRS} {b b' : Nat → Int} {n : Nat} (e : nxc b n = nxc b' n) : pTs pp b n = pTs pp b' n := by
  funext a
  unfold pTs
  rw [pPs_c e]
  simp only [pLp_c e]
theorem pPt_c {b b' : Nat → Int} {n : Nat} (e : nxc b n = nxc b' n) : ∀ k, pPt b n k = pPt b' n k
  | 0 => by
    funext a
    unfold pPt
    rw [e, pFa_c e]
  | k + 1 => by
    funext a
    unfold pPt pCl
    rw [e, pFa_c e, pPt_c e k, pTs_c e]
theorem pCs_c {b b' : Nat → Int} {n : Nat} {most : Int} (e : nxc b n = nxc b' n) : ∀ k a st tl, pCs b n most k a st tl = pCs b' n most k a st tl
  | 0, a, st, tl => rfl
  | k + 1, a, st, tl => by
    unfold pCs dgt
    rw [e, pPt_c e, pTs_c e]
    simp only [pCs_c e k]
theorem nxc_c {b b' : Nat → Int} {n : Nat} (H : ∀ a, a < n → b a = b' a) : nxc b n = nxc b' n := by
  funext a
  unfold nxc
  by_cases c : a < n
  · rw [if_pos c, if_pos c, H a c]
  · rw [if_neg c, if_neg c]
