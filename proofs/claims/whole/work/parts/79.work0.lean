/-! hours of work: sets of hours, their counts, the best -/
section P79
variable {h g k S c : HP}
theorem bit1F {v k : Nat} (hv : v < 2147483648) (hk : k < 31) : bAnd (bShr (v : Int) (k : Int)) 1 = bitF v k := by
  have hd : v / 2 ^ k ≤ v := Nat.div_le_self _ _
  rw [bShr_n (by omega) (by omega)]
  have e : bAnd ((v / 2 ^ k : Nat) : Int) 1 = ((v / 2 ^ k &&& 1 : Nat) : Int) := bAnd_n (b := 1) (by omega)
  rw [e, Nat.and_one_is_mod]
  unfold bitF
  rw [Nat.testBit_eq_decide_div_mod_eq]
  by_cases q : v / 2 ^ k % 2 = 1
  · rw [q, if_pos (by simp)]; rfl
  · rw [if_neg (by simpa using q)]
    have : v / 2 ^ k % 2 = 0 := by omega
    rw [this]; rfl
theorem bitF_r (v k : Nat) : 0 ≤ bitF v k ∧ bitF v k ≤ 1 := by
  unfold bitF
  split <;> decide
def cnt (v : Nat) : Int := sm (bitF v) 12
theorem cnt_r (v : Nat) : 0 ≤ cnt v ∧ cnt v ≤ 12 := by
  have := sm_b (f := bitF v) (n := 12) (fun j _ => bitF_r v j)
  unfold cnt
  omega
def bc1 (v : Int) : Int := w32 (v - bAnd (bUsh v 1) 1431655765)
def bc2 (x : Int) : Int := w32 (bAnd x 858993459 + bAnd (bUsh x 2) 858993459)
def bc3 (x : Int) : Int := bAnd (w32 (x + bUsh x 4)) 252645135
def bc4 (x : Int) : Int := w32 (x + bUsh x 8)
def bc5 (x : Int) : Int := w32 (x + bUsh x 16)
def bcF (v : Int) : Int := bAnd (bc5 (bc4 (bc3 (bc2 (bc1 v))))) 63
theorem bc_all : ∀ a : Nat, a < 16 → ∀ b : Nat, b < 256 → bcF ((256 * a + b : Nat) : Int) = cnt (256 * a + b) := by decide +kernel
theorem bc_e {n : Nat} (hn : n < 4096) : bcF (n : Int) = cnt n := by
  have := bc_all (n / 256) (by omega) (n % 256) (by omega)
  rw [show 256 * (n / 256) + n % 256 = n by omega] at this
  exact this
theorem z222c {d : Nat} {Q : PV → HP → Prop} {n : Nat} (hn : n < 4096) (H : Q (I (cnt n)) h) : X d 222 0 [some (I (n : Int))] [] h Q := by
  rw [← bc_e hn] at H
  exact z222 H
theorem m_cnt {d : Nat} {Q : PV → HP → Prop} {v : Nat} (hv : v < 4096) (H : Q (I (cnt v)) h) : X d 208 0 [some (I (v : Int)), none, none] [] h Q := by
  have z : ∀ i, 12 ≤ i → bitF v i = 0 := fun i hi => by
    unfold bitF
    have : v < 2 ^ i := Nat.lt_of_lt_of_le hv (Nat.pow_le_pow_right (by decide) hi : 2 ^ 12 ≤ 2 ^ i)
    rw [Nat.testBit_lt_two_pow this, if_neg (by decide)]
  have zs : ∀ n : Nat, sm (bitF v) (12 + n) = cnt v := by
    intro n
    induction n with
    | zero => rfl
    | succ n ih =>
      have e : sm (bitF v) (12 + (n + 1)) = sm (bitF v) (12 + n) + bitF v (12 + n) := rfl
      rw [e, ih, z _ (by omega), Int.add_zero]
  have L : ∀ m i : Nat, i + m = 31 → X d 208 4 [some (I (v : Int)), some (I (sm (bitF v) i)), some (I (i : Int))] [] h Q := by
    intro m
    induction m with
    | zero =>
      intro i hi
      have ei : i = 12 + 19 := by omega
      subst ei
      refine b208_4 (br_i (fun _ => ?_) (fun q => absurd (by omega) q))
      rw [zs 19]; exact H
    | succ m ih =>
      intro i hi
      have b := sm_b (f := bitF v) (n := i) (fun j _ => bitF_r v j)
      have b2 := bitF_r v i
      refine b208_4 (br_i (fun q => absurd q (by omega)) (fun _ => ?_))
      rw [bit1F (by omega) (by omega), w32_n (by omega), w32_of (x := sm (bitF v) i + bitF v i) (by omega) (by omega)]
      exact ih (i + 1) (by omega)
  exact b208_0 (L 31 0 rfl)
theorem sm_eq {f g : Nat → Int} {n : Nat} (H : ∀ j, j < n → f j ≤ g j) (e : sm f n = sm g n) : ∀ j, j < n → f j = g j := by
  induction n with
  | zero => intro j hj; omega
  | succ n ih =>
    have a := sm_le (f := f) (g := g) (n := n) (fun j hj => H j (by omega))
    have b := H n (by omega)
    simp only [sm] at e
    intro j hj
    by_cases q : j = n
    · subst q; omega
    · exact ih (fun j hj => H j (by omega)) (by omega) j (by omega)
theorem bitF_e {a b k : Nat} (e : bitF a k = bitF b k) : a.testBit k = b.testBit k := by
  unfold bitF at e
  cases q : a.testBit k <;> cases q2 : b.testBit k
  · rfl
  · rw [q, q2] at e; simp at e
  · rw [q, q2] at e; simp at e
  · rfl
theorem set_e {a b : Nat} (ha : a < 4096) (hb : b < 4096) (H : ∀ k, k < 12 → a.testBit k = b.testBit k) : a = b := by
  refine Nat.eq_of_testBit_eq (fun k => ?_)
  by_cases q : k < 12
  · exact H k q
  · have x : 2 ^ 12 ≤ 2 ^ k := Nat.pow_le_pow_right (by decide) (by omega)
    rw [Nat.testBit_lt_two_pow (Nat.lt_of_lt_of_le ha x), Nat.testBit_lt_two_pow (Nat.lt_of_lt_of_le hb x)]
def bet (a b : Nat) : Prop := cnt b < cnt a ∨ (cnt b = cnt a ∧ a ≤ b)
/-- v is the best of those of P that keep, c its count -/
def BI (ok P : Nat → Prop) (v c : Int) : Prop := (v = -9 ∧ c = -1 ∧ ∀ s, s < 4096 → P s → ¬ ok s) ∨ (∃ s : Nat, s < 4096 ∧ v = (s : Int) ∧ c = cnt s ∧ ok s ∧ ∀ r, r < 4096 → P r → ok r → bet s r)
theorem BI_u {ok P P' : Nat → Prop} {v c v' c' : Int} (a : BI ok P v c) (b : BI ok P' v' c') (h1 : ∀ s, s < 4096 → P s) (h2 : ∀ s, s < 4096 → P' s) : v = v' := by
  rcases a with ⟨a1, a2, a3⟩ | ⟨s, s1, s2, s3, s4, s5⟩
  · rcases b with ⟨b1, b2, b3⟩ | ⟨r, r1, r2, r3, r4, r5⟩
    · rw [a1, b1]
    · exact absurd r4 (a3 r r1 (h1 r r1))
  · rcases b with ⟨b1, b2, b3⟩ | ⟨r, r1, r2, r3, r4, r5⟩
    · exact absurd s4 (b3 s s1 (h2 s s1))
    · have x := s5 r r1 (h1 r r1) r4
      have y := r5 s s1 (h2 s s1) s4
      unfold bet at x y
      omega
theorem BI_no {ok P P' : Nat → Prop} {v c : Int} (a : BI ok P v c) (H : ∀ s, s < 4096 → P' s → P s ∨ ¬ ok s) : BI ok P' v c := by
  rcases a with ⟨a1, a2, a3⟩ | ⟨s, s1, s2, s3, s4, s5⟩
  · refine Or.inl ⟨a1, a2, fun r hr hp => ?_⟩
    rcases H r hr hp with x | x
    · exact a3 r hr x
    · exact x
  · refine Or.inr ⟨s, s1, s2, s3, s4, fun r hr hp ho => ?_⟩
    rcases H r hr hp with x | x
    · exact s5 r hr x ho
    · exact absurd ho x
theorem BI_pr {ok P P' : Nat → Prop} {v c : Int} {F : Nat} (hF : F < 4096) (a : BI ok P v c) (n1 : ¬ c < cnt F) (n2 : ¬ (cnt F = c ∧ (F : Int) < v)) (H : ∀ s, s < 4096 → P' s → P s ∨ ∀ k, k < 12 → bitF s k ≤ bitF F k) : BI ok P' v c := by
  have fr := cnt_r F
  rcases a with ⟨a1, a2, a3⟩ | ⟨s, s1, s2, s3, s4, s5⟩
  · omega
  · refine Or.inr ⟨s, s1, s2, s3, s4, fun r hr hp ho => ?_⟩
    rcases H r hr hp with x | x
    · exact s5 r hr x ho
    · have le : cnt r ≤ cnt F := sm_le x
      by_cases q : cnt r < cnt s
      · exact Or.inl q
      · have e : cnt r = cnt F := by omega
        have er : r = F := set_e hr hF (fun k hk => bitF_e (sm_eq x e k hk))
        subst er
        refine Or.inr ⟨by omega, ?_⟩
        omega
theorem BI_new {ok P P' : Nat → Prop} {v c : Int} {s : Nat} (hs : s < 4096) (ho : ok s) (a : BI ok P v c) (n1 : c < cnt s ∨ (cnt s = c ∧ (s : Int) < v)) (H : ∀ r, r < 4096 → P' r → P r ∨ r = s) : BI ok P' (s : Int) (cnt s) := by
  refine Or.inr ⟨s, hs, rfl, rfl, ho, fun r hr hp hk => ?_⟩
  rcases H r hr hp with x | x
  · rcases a with ⟨a1, a2, a3⟩ | ⟨q, s1, s2, s3, s4, s5⟩
    · exact absurd hk (a3 r hr x)
    · have y := s5 r hr x hk
      unfold bet at *
      omega
  · subst x
    exact Or.inr ⟨rfl, Nat.le_refl _⟩
/-- sets that begin as b does, t hours long -/
def PRE (s t b : Nat) : Prop := ∀ k, k < t → s.testBit k = b.testBit k
def FU (t : Nat) : Nat := 4095 / 2 ^ t * 2 ^ t
theorem FU_e : ∀ t : Nat, t < 13 → bShl (bShr 4095 (t : Int)) (t : Int) = ((FU t : Nat) : Int) ∧ FU t < 4096 ∧ ∀ k : Nat, k < 12 → (FU t).testBit k = decide (t ≤ k) := by decide +kernel
theorem or_FU {b t : Nat} (hb : b < 4096) (ht : t < 13) : bOr (b : Int) (bShl (bShr 4095 (t : Int)) (t : Int)) = ((b ||| FU t : Nat) : Int) ∧ (b ||| FU t) < 4096 := by
  have f := FU_e t ht
  rw [f.1, bOr_n (by omega) (by omega)]
  exact ⟨rfl, Nat.or_lt_two_pow (n := 12) hb f.2.1⟩
theorem PRE_F {s b t : Nat} (ht : t < 13) (hp : PRE s t b) : ∀ k, k < 12 → bitF s k ≤ bitF (b ||| FU t) k := by
  intro k hk
  have f := (FU_e t ht).2.2 k hk
  have r := bitF_r s k
  by_cases q : t ≤ k
  · have : bitF (b ||| FU t) k = 1 := by
      unfold bitF
      rw [Nat.testBit_or, f, if_pos (by simp [q])]
    omega
  · have e : (b ||| FU t).testBit k = s.testBit k := by
      rw [Nat.testBit_or, f, hp k (by omega)]
      simp [q]
    unfold bitF
    rw [e]
    exact Int.le_refl _
theorem or_bit {b t o : Nat} (ht : t < 12) (hb : b < 2 ^ t) (ho : o ≤ 1) : bOr (b : Int) (bShl (o : Int) (t : Int)) = ((b ||| o * 2 ^ t : Nat) : Int) ∧ (b ||| o * 2 ^ t) < 2 ^ (t + 1) ∧ ∀ s : Nat, (PRE s (t + 1) (b ||| o * 2 ^ t) ↔ (PRE s t b ∧ bitF s t = (o : Int))) := by
  have p1 : 2 ^ t ≤ 2 ^ 11 := Nat.pow_le_pow_right (by decide) (by omega)
  have e11 : (2 : Nat) ^ 11 = 2048 := by decide
  have es : 2 ^ (t + 1) = 2 ^ t * 2 := Nat.pow_succ 2 t
  have ob : o * 2 ^ t ≤ 2 ^ t := by
    have : o = 0 ∨ o = 1 := by omega
    rcases this with e | e <;> subst e <;> omega
  have lt : (b ||| o * 2 ^ t) < 2 ^ (t + 1) := Nat.or_lt_two_pow (by omega) (by omega)
  have tb : ∀ k, (b ||| o * 2 ^ t).testBit k = (b.testBit k || (decide (o = 1) && decide (t = k))) := by
    intro k
    rw [Nat.testBit_or]
    have : o = 0 ∨ o = 1 := by omega
    rcases this with e | e
    · subst e; simp
    · subst e; rw [Nat.one_mul, Nat.testBit_two_pow]; simp
  refine ⟨?_, lt, fun s => ⟨fun hp => ⟨fun k hk => ?_, ?_⟩, fun hp k hk => ?_⟩⟩
  · rw [bShl_n (by omega) (by omega), bOr_n (by omega) (by omega)]
  · rw [hp k (by omega), tb k]
    simp [show ¬ t = k by omega]
  · have := hp t (by omega)
    unfold bitF
    rw [this, tb t, Nat.testBit_lt_two_pow hb]
    have : o = 0 ∨ o = 1 := by omega
    rcases this with e | e <;> subst e <;> simp
  · rw [tb k]
    by_cases q : k = t
    · subst q
      rw [Nat.testBit_lt_two_pow hb]
      have e := hp.2
      unfold bitF at e
      have : o = 0 ∨ o = 1 := by omega
      rcases this with e2 | e2
      · subst e2
        cases q : s.testBit k
        · simp
        · rw [q] at e; simp at e
      · subst e2
        cases q : s.testBit k
        · rw [q] at e; simp at e
        · simp
    · rw [hp.1 k (by omega)]
      simp [show ¬ t = k by omega]
/-- the class behind t hours of a set -/
def VW (h : HP) (b s : Nat) : Nat → HP
  | 0 => h
  | t + 1 => nx (up2 (VW h b s t) 25 b (bitF s t)) t
theorem VW_c {b s r : Nat} : ∀ {t : Nat}, PRE s t r → VW h b s t = VW h b r t
  | 0, _ => rfl
  | t + 1, hp => by
    have e := VW_c (b := b) (t := t) (fun k hk => hp k (by omega))
    have e2 : bitF s t = bitF r t := by unfold bitF; rw [hp t (by omega)]
    show nx _ t = nx _ t
    rw [e, e2]
theorem VW_f {q b s : Nat} (hq : q ≠ 7 ∧ q ≠ 29 ∧ q ≠ 8 ∧ q ≠ 9 ∧ q ≠ 52 ∧ q ≠ 54 ∧ q ≠ 55) (h25 : q ≠ 25) : ∀ t, VW h b s t q = h q
  | 0 => rfl
  | t + 1 => (nx_f hq).trans ((up_p h25).trans (VW_f hq h25 t))
theorem VW_25 {j b s : Nat} (hj : j ≠ b) : ∀ t, VW h b s t 25 j = h 25 j
  | 0 => rfl
  | t + 1 => by
    show nx (up2 (VW h b s t) 25 b (bitF s t)) t 25 j = _
    rw [nx_f (q := 25) (by decide), up_i hj]
    exact VW_25 hj t
theorem OKC_25 {B v : Int} {b : Nat} (hO : OKC c B) (v0 : 0 ≤ v) (v1 : v ≤ 1) : OKC (up2 c 25 b v) B := by
  obtain ⟨⟨⟨r56, r57, r58, r59, r60, r61, r62, r63, r64, r65⟩, ⟨r78, r79, r80⟩, ⟨r84, r85, r86, r87⟩, ⟨r90, r91, r92, r93, r94, r95, r96, r97⟩, ⟨r99, r101, r103, r104, r105⟩⟩, ⟨r76, r77, r114, r81, r88, r66, r67⟩, ⟨r102, r100, r106, r51, r52, r53, r54⟩, r120, r122⟩ := id hO
  have n102 : rgA (up2 c 25 b v 25) 0 1 := rgA_u r102 v0 v1
  unfold OKC RK TX
  simp only [up_p (show 2 ≠ 25 by decide), up_p (show 3 ≠ 25 by decide), up_p (show 4 ≠ 25 by decide), up_p (show 5 ≠ 25 by decide), up_p (show 6 ≠ 25 by decide), up_p (show 7 ≠ 25 by decide), up_p (show 8 ≠ 25 by decide), up_p (show 9 ≠ 25 by decide), up_p (show 12 ≠ 25 by decide), up_p (show 13 ≠ 25 by decide), up_p (show 14 ≠ 25 by decide), up_p (show 15 ≠ 25 by decide), up_p (show 17 ≠ 25 by decide), up_p (show 18 ≠ 25 by decide), up_p (show 19 ≠ 25 by decide), up_p (show 20 ≠ 25 by decide), up_p (show 22 ≠ 25 by decide), up_p (show 23 ≠ 25 by decide), up_p (show 24 ≠ 25 by decide), up_p (show 26 ≠ 25 by decide), up_p (show 27 ≠ 25 by decide), up_p (show 28 ≠ 25 by decide), up_p (show 29 ≠ 25 by decide), up_p (show 30 ≠ 25 by decide), up_p (show 31 ≠ 25 by decide), up_p (show 32 ≠ 25 by decide), up_p (show 33 ≠ 25 by decide), up_p (show 34 ≠ 25 by decide), up_p (show 39 ≠ 25 by decide), up_p (show 40 ≠ 25 by decide), up_p (show 103 ≠ 25 by decide), up_p (show 104 ≠ 25 by decide)]
  exact ⟨⟨⟨r56, r57, r58, r59, r60, r61, r62, r63, r64, r65⟩, ⟨r78, r79, r80⟩, ⟨r84, r85, r86, r87⟩, ⟨r90, r91, r92, r93, r94, r95, r96, r97⟩, ⟨r99, r101, r103, r104, r105⟩⟩, ⟨r76, r77, r114, r81, r88, r66, r67⟩, ⟨n102, r100, r106, r51, r52, r53, r54⟩, r120, r122⟩
theorem VW_O {B : Int} {b s : Nat} (hO : OKC h B) (hB : 2000000 ≤ B) : ∀ t : Nat, OKC (VW h b s t) (B + 40000 * t)
  | 0 => by show OKC h _; simpa using hO
  | t + 1 => by
    have r := bitF_r s t
    have := OKC_n (hr := t) (OKC_25 (b := b) (VW_O (b := b) (s := s) hO hB t) r.1 r.2) (by omega)
    have e : B + 40000 * ((t : Nat) : Int) + 40000 = B + 40000 * ((t + 1 : Nat) : Int) := by omega
    rw [e] at this
    exact this
theorem STB_25 {b : Nat} {v : Int} (a : STB h S) : STB h (up2 S 25 b v) := by
  unfold STB at *
  rw [up_p (show 7 ≠ 25 by decide), up_p (show 8 ≠ 25 by decide), up_p (show 9 ≠ 25 by decide), up_p (show 29 ≠ 25 by decide)]
  exact a
theorem VW_s {B : Int} {b s : Nat} (hO : OKC h B) (hB : 2000000 ≤ B) : ∀ t, STB h (VW h b s t)
  | 0 => STB_r h
  | t + 1 => STB_n (OKC_25 (b := b) (VW_O (b := b) (s := s) hO hB t) (bitF_r s t).1 (bitF_r s t).2) (STB_25 (VW_s hO hB t))
def okH (h : HP) (b s t : Nat) : Prop := wrm (VW h b s (t + 1)) (h 23 b).toNat ≤ h 11 (h 23 b).toNat
def okW (h : HP) (b s : Nat) : Prop := ∀ t, t < 12 → okH h b s t
theorem okH_c {b s r t : Nat} (hp : PRE s (t + 1) r) : okH h b s t ↔ okH h b r t := by
  unfold okH
  rw [VW_c hp]
end P79
