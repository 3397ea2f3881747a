/-! sums over the first n; rests: the greatest warmths at which none loses -/
def sm (f : Nat → Int) : Nat → Int
  | 0 => 0
  | n + 1 => sm f n + f n
def st1 (w : Nat → Int) (p : Nat) (t : Int) : Nat → Int := fun j => if j = p then t else w j
theorem st1_s {w : Nat → Int} {p : Nat} {t : Int} : st1 w p t p = t := by simp [st1]
theorem st1_n {w : Nat → Int} {p q : Nat} {t : Int} (h : q ≠ p) : st1 w p t q = w q := by simp [st1, h]
theorem st1_id {w : Nat → Int} {p : Nat} : st1 w p (w p) = w := by funext j; by_cases e : j = p <;> simp [st1, e]
theorem st1_2 {w : Nat → Int} {p : Nat} {s t : Int} : st1 (st1 w p s) p t = st1 w p t := by funext j; by_cases e : j = p <;> simp [st1, e]
theorem sm_c {f g : Nat → Int} {n : Nat} (H : ∀ j, j < n → f j = g j) : sm f n = sm g n := by
  induction n with
  | zero => rfl
  | succ n ih => simp only [sm]; rw [ih (fun j hj => H j (by omega)), H n (by omega)]
theorem sm_le {f g : Nat → Int} {n : Nat} (H : ∀ j, j < n → f j ≤ g j) : sm f n ≤ sm g n := by
  induction n with
  | zero => exact Int.le_refl _
  | succ n ih =>
    have h1 := ih (fun j hj => H j (by omega))
    have h2 := H n (by omega)
    simp only [sm]; omega
theorem sm_add (f g : Nat → Int) (n : Nat) : sm (fun j => f j + g j) n = sm f n + sm g n := by
  induction n with
  | zero => rfl
  | succ n ih => simp only [sm]; rw [ih]; omega
theorem sm_0 {f : Nat → Int} {n : Nat} (H : ∀ j, j < n → f j = 0) : sm f n = 0 := by
  induction n with
  | zero => rfl
  | succ n ih => simp only [sm]; rw [ih (fun j hj => H j (by omega)), H n (by omega)]; rfl
theorem sm_one {f : Nat → Int} {n p : Nat} (hp : p < n) (H : ∀ j, j < n → j ≠ p → f j = 0) : sm f n = f p := by
  induction n with
  | zero => omega
  | succ n ih =>
    simp only [sm]
    by_cases e : p = n
    · subst e; rw [sm_0 (fun j hj => H j (by omega) (by omega))]; omega
    · rw [ih (by omega) (fun j hj hn => H j (by omega) hn), H n (by omega) (fun q => e q.symm)]; omega
theorem sm_st {w : Nat → Int} {n p : Nat} {t : Int} (hp : p < n) : sm (st1 w p t) n = sm w n - w p + t := by
  induction n with
  | zero => omega
  | succ n ih =>
    simp only [sm]
    by_cases e : p = n
    · subst e
      rw [sm_c (g := w) (fun j hj => st1_n (by omega)), st1_s]; omega
    · rw [ih (by omega), st1_n (fun q => e q.symm)]; omega
theorem sm_b {f : Nat → Int} {n : Nat} {a b : Int} (H : ∀ j, j < n → a ≤ f j ∧ f j ≤ b) : a * n ≤ sm f n ∧ sm f n ≤ b * n := by
  induction n with
  | zero => simp [sm]
  | succ n ih =>
    have h1 := ih (fun j hj => H j (by omega))
    have h2 := H n (by omega)
    simp only [sm]
    have e1 : a * ((n + 1 : Nat) : Int) = a * n + a := by rw [Int.natCast_add, Int.mul_add]; simp
    have e2 : b * ((n + 1 : Nat) : Int) = b * n + b := by rw [Int.natCast_add, Int.mul_add]; simp
    rw [e1, e2]; omega
theorem sm_nn {f : Nat → Int} {n : Nat} (H : ∀ j, j < n → 0 ≤ f j) : 0 ≤ sm f n := by
  induction n with
  | zero => exact Int.le_refl _
  | succ n ih =>
    have h1 := ih (fun j hj => H j (by omega))
    have h2 := H n (by omega)
    simp only [sm]; omega
/-- none is colder than 0 or warmer than 600, none loses but at 0 -/
def isR (n : Nat) (N : (Nat → Int) → Nat → Int) (w : Nat → Int) : Prop := ∀ p, p < n → 0 ≤ w p ∧ w p ≤ 600 ∧ (w p = 0 ∨ 0 ≤ N w p)
def upB (n : Nat) (N : (Nat → Int) → Nat → Int) (w : Nat → Int) : Prop := ∀ g, isR n N g → ∀ p, p < n → g p ≤ w p
def GR (n : Nat) (N : (Nat → Int) → Nat → Int) (w : Nat → Int) : Prop := isR n N w ∧ upB n N w
def mono (n : Nat) (N : (Nat → Int) → Nat → Int) : Prop := ∀ w w' p, p < n → (∀ q, q < n → w q ≤ w' q) → w p = w' p → N w p ≤ N w' p
def anti (n : Nat) (N : (Nat → Int) → Nat → Int) : Prop := ∀ w p s t, p < n → 0 ≤ s → s ≤ t → t ≤ 600 → N (st1 w p t) p ≤ N (st1 w p s) p
theorem GR_u {n : Nat} {N : (Nat → Int) → Nat → Int} {w w' : Nat → Int} (h : GR n N w) (h' : GR n N w') {p : Nat} (hp : p < n) : w p = w' p := by
  have h1 := h.2 w' h'.1 p hp
  have h2 := h'.2 w h.1 p hp
  omega
theorem isR_c {n : Nat} {N N' : (Nat → Int) → Nat → Int} (H : ∀ w p, p < n → N w p = N' w p) {w : Nat → Int} (h : isR n N w) : isR n N' w := fun p hp => by
  have := h p hp
  rw [H w p hp] at this
  exact this
theorem GR_c {n : Nat} {N N' : (Nat → Int) → Nat → Int} (H : ∀ w p, p < n → N w p = N' w p) {w : Nat → Int} (h : GR n N w) : GR n N' w :=
  ⟨isR_c H h.1, fun g hg => h.2 g (isR_c (fun w p hp => (H w p hp).symm) hg)⟩
theorem upB_low {n : Nat} {N : (Nat → Int) → Nat → Int} (hm : mono n N) {w : Nat → Int} (hb : upB n N w) {p : Nat} {t : Int} (ht : 0 ≤ t) (H : ∀ s, t < s → s ≤ w p → N (st1 w p s) p < 0) : upB n N (st1 w p t) := fun g hg q hq => by
  by_cases e : q = p
  · subst e
    rw [st1_s]
    have h1 := hb g hg q hq
    have h2 := hg q hq
    rcases Int.lt_or_le t (g q) with h | h
    · have h3 := H (g q) h h1
      have h4 := hm g (st1 w q (g q)) q hq (fun r hr => by
        by_cases e : r = q
        · subst e; rw [st1_s]; omega
        · rw [st1_n e]; exact hb g hg r hr) (by rw [st1_s])
      omega
    · exact h
  · rw [st1_n e]; exact hb g hg q hq
/-- what a plate of area 1 sends at a warmth, its flap open, its coat sending all -/
def sndA (pt : Nat → Int) (t : Int) : Int := if 600 ≤ t then pt 6 else pt (t / 100).toNat + (pt ((t / 100).toNat + 1) - pt (t / 100).toNat) * (t - 100 * (t / 100)) / 100
def letD (door s : Int) : Int := if door = 0 then s / 5 else if door = 1 then s / 2 else s
def snt (pt : Nat → Int) (area door sends t : Int) : Int := area * letD door (sndA pt t) * sends / 100
theorem rise_m {f : Nat → Int} (h : rise f) : ∀ (m k : Nat), k + m ≤ 6 → f k ≤ f (k + m)
  | 0, k, _ => Int.le_refl _
  | m + 1, k, hk => by
    have h1 := rise_m h m k (by omega)
    have h2 := h (k + m) (by omega)
    have e : k + (m + 1) = k + m + 1 := rfl
    rw [e]; omega
theorem rise_l {f : Nat → Int} (h : rise f) {k l : Nat} (hkl : k ≤ l) (hl : l ≤ 6) : f k ≤ f l := by
  have := rise_m h (l - k) k (by omega)
  rw [show k + (l - k) = l by omega] at this
  exact this
theorem mul_rg {a b A B : Int} (h0 : 0 ≤ a) (h1 : a ≤ A) (g0 : 0 ≤ b) (g1 : b ≤ B) : 0 ≤ a * b ∧ a * b ≤ A * B :=
  ⟨Int.mul_nonneg h0 g0, Int.mul_le_mul h1 g1 g0 (by omega)⟩
theorem snd_b {pt : Nat → Int} (h : rise pt) {t : Int} (h0 : 0 ≤ t) (h6 : t < 600) : pt (t / 100).toNat ≤ sndA pt t ∧ sndA pt t ≤ pt ((t / 100).toNat + 1) := by
  unfold sndA
  rw [if_neg (by omega)]
  have hd := h (t / 100).toNat (by omega)
  generalize ha : pt (t / 100).toNat = a at *
  generalize hb : pt ((t / 100).toNat + 1) = b at *
  have hr := mul_rg (a := b - a) (b := t - 100 * (t / 100)) (A := b - a) (B := 100) (by omega) (by omega) (by omega) (by omega)
  have hm : (b - a) * 100 / 100 = b - a := by omega
  have h1 := Int.ediv_le_ediv (a := (b - a) * (t - 100 * (t / 100))) (b := (b - a) * 100) (c := 100) (by decide) hr.2
  have h2 := Int.ediv_nonneg hr.1 (b := 100) (by decide)
  omega
theorem snd_m {pt : Nat → Int} (h : rise pt) {s t : Int} (h0 : 0 ≤ s) (hst : s ≤ t) : sndA pt s ≤ sndA pt t := by
  by_cases h6 : 600 ≤ s
  · unfold sndA; rw [if_pos h6, if_pos (by omega)]; exact Int.le_refl _
  · have b1 := snd_b h h0 (by omega)
    by_cases h7 : 600 ≤ t
    · have e : sndA pt t = pt 6 := by unfold sndA; rw [if_pos h7]
      rw [e]
      have := rise_l h (k := (s / 100).toNat + 1) (l := 6) (by omega) (by omega)
      omega
    · have b2 := snd_b h (t := t) (by omega) (by omega)
      by_cases e : s / 100 = t / 100
      · unfold sndA
        rw [if_neg h6, if_neg h7, e]
        have hd := h (t / 100).toNat (by omega)
        have h1 := Int.mul_le_mul_of_nonneg_left (a := s - 100 * (t / 100)) (b := t - 100 * (t / 100)) (c := pt ((t / 100).toNat + 1) - pt (t / 100).toNat) (by omega) (by omega)
        have h2 := Int.ediv_le_ediv (c := 100) (by decide) h1
        omega
      · have := rise_l h (k := (s / 100).toNat + 1) (l := (t / 100).toNat) (by omega) (by omega)
        omega
theorem snd_r {pt : Nat → Int} (h : rise pt) {A : Int} (hr : rgA pt 0 A) {t : Int} (h0 : 0 ≤ t) : 0 ≤ sndA pt t ∧ sndA pt t ≤ A := by
  by_cases h6 : 600 ≤ t
  · unfold sndA; rw [if_pos h6]; exact hr 6
  · have b1 := snd_b h h0 (by omega)
    have h1 := hr (t / 100).toNat
    have h2 := hr ((t / 100).toNat + 1)
    omega
theorem let_m {d s t : Int} (h : s ≤ t) : letD d s ≤ letD d t := by
  unfold letD
  split
  · omega
  · split <;> omega
theorem let_r {d s A : Int} (h0 : 0 ≤ s) (h : s ≤ A) : 0 ≤ letD d s ∧ letD d s ≤ A := by
  unfold letD
  split
  · omega
  · split <;> omega
theorem snt_m {pt : Nat → Int} (h : rise pt) {a d c s t : Int} (ha : 0 ≤ a) (hc : 0 ≤ c) (h0 : 0 ≤ s) (hst : s ≤ t) : snt pt a d c s ≤ snt pt a d c t := by
  unfold snt
  apply Int.ediv_le_ediv (by decide)
  exact Int.mul_le_mul_of_nonneg_right (Int.mul_le_mul_of_nonneg_left (let_m (snd_m h h0 hst)) ha) hc
theorem snt_r {pt : Nat → Int} (h : rise pt) (hr : rgA pt 0 9999) {a d c t : Int} (ha : 0 ≤ a) (ha2 : a ≤ 20) (hc : 0 ≤ c) (hc2 : c ≤ 100) (h0 : 0 ≤ t) : 0 ≤ a * letD d (sndA pt t) ∧ a * letD d (sndA pt t) ≤ 199980 ∧ 0 ≤ a * letD d (sndA pt t) * c ∧ a * letD d (sndA pt t) * c ≤ 19998000 ∧ 0 ≤ snt pt a d c t ∧ snt pt a d c t ≤ 199980 := by
  have h1 := snd_r h hr h0
  have h2 := let_r (d := d) h1.1 h1.2
  have h3 := mul_rg ha ha2 h2.1 h2.2
  have h4 := mul_rg h3.1 h3.2 hc hc2
  unfold snt
  have e1 : (20 : Int) * 9999 = 199980 := by decide
  have e2 : (20 : Int) * 9999 * 100 = 19998000 := by decide
  rw [e1] at h3
  rw [e2] at h4
  generalize a * letD d (sndA pt t) * c = z at *
  refine ⟨h3.1, h3.2, h4.1, h4.2, by omega, by omega⟩
/-- what a joint leads to p -/
def ledJ (a b l : Nat → Int) (w : Nat → Int) (p : Nat) (j : Nat) : Int := if b j = p then l j * (w (a j).toNat - w (b j).toNat) else if a j = p then -(l j * (w (a j).toNat - w (b j).toNat)) else 0
/-- what a pipe leads to p; z: frozen -/
def ledP (a b l z : Nat → Int) (w : Nat → Int) (p : Nat) (k : Nat) : Int := if ¬ z k = 0 then 0 else if 0 ≤ l k * (w (a k).toNat - w (b k).toNat) then ledJ a b l w p k else 0
def nt (n1 n2 : Nat) (G : Nat → Int) (T : Nat → Int → Int) (a b l a2 b2 l2 z : Nat → Int) : (Nat → Int) → Nat → Int := fun w p => G p + sm (ledJ a b l w p) n1 + sm (ledP a2 b2 l2 z w p) n2 - T p (w p)
/-- the links of a craft of n plates -/
def lnk (n m : Nat) (a b l : Nat → Int) : Prop := ∀ j, j < m → 0 ≤ a j ∧ a j < n ∧ 0 ≤ b j ∧ b j < n ∧ a j ≠ b j ∧ 0 ≤ l j ∧ l j ≤ 99
theorem toN_ne {x : Int} {p : Nat} (h0 : 0 ≤ x) (h : ¬ x = p) : x.toNat ≠ p := by omega
theorem toN_eq {x : Int} {p : Nat} (h : x = p) : x.toNat = p := by omega
theorem ledJ_m {n m : Nat} {a b l w w' : Nat → Int} {p j : Nat} (hl : lnk n m a b l) (hj : j < m) (H : ∀ q, q < n → w q ≤ w' q) (e : w p = w' p) : ledJ a b l w p j ≤ ledJ a b l w' p j := by
  obtain ⟨a0, a1, b0, b1, hn, l0, l1⟩ := hl j hj
  have h1 := H (a j).toNat (by omega)
  have h2 := H (b j).toNat (by omega)
  unfold ledJ
  split
  · rename_i q
    rw [toN_eq q, e]
    exact Int.mul_le_mul_of_nonneg_left (by omega) l0
  · split
    · rename_i q
      rw [toN_eq q, e]
      have := Int.mul_le_mul_of_nonneg_left (a := w' p - w' (b j).toNat) (b := w' p - w (b j).toNat) (c := l j) (by omega) l0
      omega
    · exact Int.le_refl _
theorem ledJ_a {n m : Nat} {a b l w : Nat → Int} {p j : Nat} {s t : Int} (hl : lnk n m a b l) (hj : j < m) (hst : s ≤ t) : ledJ a b l (st1 w p t) p j ≤ ledJ a b l (st1 w p s) p j := by
  obtain ⟨a0, a1, b0, b1, hn, l0, l1⟩ := hl j hj
  unfold ledJ
  split
  · rename_i q
    rw [toN_eq q, st1_s, st1_s, st1_n (toN_ne a0 (by omega)), st1_n (toN_ne a0 (by omega))]
    exact Int.mul_le_mul_of_nonneg_left (by omega) l0
  · rename_i q2
    split
    · rename_i q
      rw [toN_eq q, st1_s, st1_s, st1_n (toN_ne b0 q2), st1_n (toN_ne b0 q2)]
      have := Int.mul_le_mul_of_nonneg_left (a := s - w (b j).toNat) (b := t - w (b j).toNat) (c := l j) (by omega) l0
      omega
    · exact Int.le_refl _
theorem ledJ_t {n m : Nat} {a b l w : Nat → Int} {p j : Nat} (hl : lnk n m a b l) (hj : j < m) (H : ∀ q, q < n → w q ≤ w p) : ledJ a b l w p j ≤ 0 := by
  obtain ⟨a0, a1, b0, b1, hn, l0, l1⟩ := hl j hj
  have h1 := H (a j).toNat (by omega)
  have h2 := H (b j).toNat (by omega)
  unfold ledJ
  split
  · rename_i q
    rw [toN_eq q]
    have := Int.mul_le_mul_of_nonneg_left (a := w (a j).toNat - w p) (b := 0) (c := l j) (by omega) l0
    omega
  · split
    · rename_i q
      rw [toN_eq q]
      have := Int.mul_nonneg l0 (b := w p - w (b j).toNat) (by omega)
      omega
    · exact Int.le_refl _
theorem mul_sg {l x : Int} (l0 : 0 ≤ l) : (0 ≤ l * x → 0 < l → 0 ≤ x) ∧ (0 ≤ x → 0 ≤ l * x) ∧ (¬ 0 ≤ l * x → x < 0) ∧ (x ≤ 0 → l * x ≤ 0) := by
  have h1 : 0 ≤ x → 0 ≤ l * x := fun h => Int.mul_nonneg l0 h
  have h2 : x ≤ 0 → l * x ≤ 0 := fun h => by
    have := Int.mul_le_mul_of_nonneg_left (a := x) (b := 0) (c := l) h l0
    omega
  refine ⟨fun h hp => ?_, h1, fun h => ?_, h2⟩
  · rcases Int.lt_or_le x 0 with q | q
    · have := Int.mul_neg_of_pos_of_neg hp q
      omega
    · exact q
  · rcases Int.lt_or_le x 0 with q | q
    · exact q
    · exact absurd (h1 q) h
/-- a pipe by its two ends' warmths -/
theorem ledP_e {n m : Nat} {a b l z w : Nat → Int} {p k : Nat} (hl : lnk n m a b l) (hk : k < m) : ledP a b l z w p k = if ¬ z k = 0 then 0 else if b k = p then (if 0 ≤ l k * (w (a k).toNat - w p) then l k * (w (a k).toNat - w p) else 0) else if a k = p then -(if 0 ≤ l k * (w p - w (b k).toNat) then l k * (w p - w (b k).toNat) else 0) else 0 := by
  unfold ledP ledJ
  by_cases hz : z k = 0
  · rw [if_neg (not_not_intro hz), if_neg (not_not_intro hz)]
    by_cases hb : b k = p
    · rw [if_pos hb, if_pos hb, toN_eq hb]
    · rw [if_neg hb, if_neg hb]
      by_cases ha : a k = p
      · rw [if_pos ha, if_pos ha, toN_eq ha]
        split <;> omega
      · rw [if_neg ha, if_neg ha]
        split <;> rfl
  · rw [if_pos hz, if_pos hz]
theorem mx_m {x y : Int} (h : x ≤ y) : (if 0 ≤ x then x else 0) ≤ (if 0 ≤ y then y else 0) := by
  split <;> split <;> omega
theorem ledP_m {n m : Nat} {a b l z w w' : Nat → Int} {p k : Nat} (hl : lnk n m a b l) (hk : k < m) (H : ∀ q, q < n → w q ≤ w' q) (e : w p = w' p) : ledP a b l z w p k ≤ ledP a b l z w' p k := by
  rw [ledP_e hl hk, ledP_e hl hk]
  obtain ⟨a0, a1, b0, b1, hn, l0, l1⟩ := hl k hk
  have h1 := H (a k).toNat (by omega)
  have h2 := H (b k).toNat (by omega)
  rw [e]
  split
  · exact Int.le_refl _
  · split
    · exact mx_m (Int.mul_le_mul_of_nonneg_left (by omega) l0)
    · split
      · have := mx_m (Int.mul_le_mul_of_nonneg_left (a := w' p - w' (b k).toNat) (b := w' p - w (b k).toNat) (c := l k) (by omega) l0)
        omega
      · exact Int.le_refl _
theorem ledP_a {n m : Nat} {a b l z w : Nat → Int} {p k : Nat} {s t : Int} (hl : lnk n m a b l) (hk : k < m) (hst : s ≤ t) : ledP a b l z (st1 w p t) p k ≤ ledP a b l z (st1 w p s) p k := by
  rw [ledP_e hl hk, ledP_e hl hk]
  obtain ⟨a0, a1, b0, b1, hn, l0, l1⟩ := hl k hk
  simp only [st1_s]
  split
  · exact Int.le_refl _
  · split
    · rename_i q
      rw [st1_n (toN_ne a0 (by omega)), st1_n (toN_ne a0 (by omega))]
      exact mx_m (Int.mul_le_mul_of_nonneg_left (by omega) l0)
    · rename_i q2
      split
      · rw [st1_n (toN_ne b0 q2), st1_n (toN_ne b0 q2)]
        have := mx_m (Int.mul_le_mul_of_nonneg_left (a := s - w (b k).toNat) (b := t - w (b k).toNat) (c := l k) (by omega) l0)
        omega
      · exact Int.le_refl _
theorem ledP_t {n m : Nat} {a b l z w : Nat → Int} {p k : Nat} (hl : lnk n m a b l) (hk : k < m) (H : ∀ q, q < n → w q ≤ w p) : ledP a b l z w p k ≤ 0 := by
  rw [ledP_e hl hk]
  obtain ⟨a0, a1, b0, b1, hn, l0, l1⟩ := hl k hk
  have h1 := H (a k).toNat (by omega)
  have h2 := H (b k).toNat (by omega)
  split
  · exact Int.le_refl _
  · split
    · have := (mul_sg (l := l k) (x := w (a k).toNat - w p) l0).2.2.2 (by omega)
      split <;> omega
    · split
      · split <;> omega
      · exact Int.le_refl _
section NT
variable {n n1 n2 : Nat} {G : Nat → Int} {T : Nat → Int → Int} {a b l a2 b2 l2 z : Nat → Int}
theorem nt_mono (h1 : lnk n n1 a b l) (h2 : lnk n n2 a2 b2 l2) : mono n (nt n1 n2 G T a b l a2 b2 l2 z) := fun w w' p hp H e => by
  unfold nt
  have x1 := sm_le (f := ledJ a b l w p) (g := ledJ a b l w' p) (n := n1) (fun j hj => ledJ_m h1 hj H e)
  have x2 := sm_le (f := ledP a2 b2 l2 z w p) (g := ledP a2 b2 l2 z w' p) (n := n2) (fun j hj => ledP_m h2 hj H e)
  rw [e]; omega
theorem nt_anti (h1 : lnk n n1 a b l) (h2 : lnk n n2 a2 b2 l2) (hT : ∀ p s t, p < n → 0 ≤ s → s ≤ t → t ≤ 600 → T p s ≤ T p t) : anti n (nt n1 n2 G T a b l a2 b2 l2 z) := fun w p s t hp h0 hst h6 => by
  unfold nt
  have x1 := sm_le (f := ledJ a b l (st1 w p t) p) (g := ledJ a b l (st1 w p s) p) (n := n1) (fun j hj => ledJ_a h1 hj hst)
  have x2 := sm_le (f := ledP a2 b2 l2 z (st1 w p t) p) (g := ledP a2 b2 l2 z (st1 w p s) p) (n := n2) (fun j hj => ledP_a h2 hj hst)
  have x3 := hT p s t hp h0 hst h6
  rw [st1_s, st1_s]; omega
theorem nt_top (h1 : lnk n n1 a b l) (h2 : lnk n n2 a2 b2 l2) {w : Nat → Int} {p : Nat} (H : ∀ q, q < n → w q ≤ w p) : nt n1 n2 G T a b l a2 b2 l2 z w p ≤ G p - T p (w p) := by
  unfold nt
  have x1 := sm_le (f := ledJ a b l w p) (g := fun _ => 0) (n := n1) (fun j hj => ledJ_t h1 hj H)
  have x2 := sm_le (f := ledP a2 b2 l2 z w p) (g := fun _ => 0) (n := n2) (fun j hj => ledP_t h2 hj H)
  rw [sm_0 (f := fun _ => 0) (fun _ _ => rfl)] at x1 x2
  omega
/-- some plate is the warmest -/
theorem ex_max (w : Nat → Int) : ∀ n, 0 < n → ∃ p, p < n ∧ ∀ q, q < n → w q ≤ w p
  | 0, h => absurd h (by decide)
  | 1, _ => ⟨0, by decide, fun q hq => by have : q = 0 := by omega
                                          subst this; exact Int.le_refl _⟩
  | n + 2, _ => by
    obtain ⟨p, hp, H⟩ := ex_max w (n + 1) (by omega)
    rcases Int.lt_or_le (w p) (w (n + 1)) with h | h
    · refine ⟨n + 1, by omega, fun q hq => ?_⟩
      by_cases e : q = n + 1
      · subst e; exact Int.le_refl _
      · have := H q (by omega); omega
    · refine ⟨p, by omega, fun q hq => ?_⟩
      by_cases e : q = n + 1
      · subst e; exact h
      · exact H q (by omega)
/-- none rests above the warmest that would rest alone -/
theorem nt_ub (h1 : lnk n n1 a b l) (h2 : lnk n n2 a2 b2 l2) {top : Int} (ht : 0 ≤ top) (H : ∀ p t, p < n → 0 < t → t ≤ 600 → 0 ≤ G p - T p t → t ≤ top) : upB n (nt n1 n2 G T a b l a2 b2 l2 z) (fun _ => top) := fun g hg p hp => by
  obtain ⟨q, hq, hm⟩ := ex_max g n (by omega)
  have h3 := hm p hp
  obtain ⟨g0, g6, hz⟩ := hg q hq
  rcases hz with e | e
  · show g p ≤ top
    omega
  · have h4 := nt_top (G := G) (T := T) (z := z) h1 h2 hm
    show g p ≤ top
    by_cases e0 : g q = 0
    · omega
    · have := H q (g q) hq (by omega) g6 (by omega)
      omega
end NT
