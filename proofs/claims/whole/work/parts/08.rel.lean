/-! numbers of the machine and of the pure machine -/
theorem w32_b (x : Int) : w32 x = x.bmod (2 ^ 32) := by
  unfold w32 Int.bmod
  simp only [show ((2 ^ 32 : Nat) : Int) = 4294967296 from rfl]
  split <;> omega
theorem w64_b (x : Int) : w64 x = x.bmod (2 ^ 64) := by
  unfold w64 Int.bmod
  simp only [show ((2 ^ 64 : Nat) : Int) = 18446744073709551616 from rfl]
  split <;> omega
theorem w32_of {x : Int} (h1 : -2147483648 ≤ x) (h2 : x ≤ 2147483647) : w32 x = x := by unfold w32; omega
theorem w32_r (x : Int) : -2147483648 ≤ w32 x ∧ w32 x ≤ 2147483647 := by unfold w32; omega
theorem n_r (x : Int32) : -2147483648 ≤ x.toInt ∧ x.toInt ≤ 2147483647 := by
  have h1 := Int32.le_toInt x
  have h2 := Int32.toInt_lt x
  exact ⟨by simpa using h1, by have := h2; simp at this; omega⟩
theorem n_w (x : Int32) : w32 x.toInt = x.toInt := w32_of (n_r x).1 (n_r x).2
theorem n_add (x y : Int32) : (x + y).toInt = w32 (x.toInt + y.toInt) := by rw [w32_b, Int32.toInt_add]
theorem n_sub (x y : Int32) : (x - y).toInt = w32 (x.toInt - y.toInt) := by rw [w32_b, Int32.toInt_sub]
theorem n_mul (x y : Int32) : (x * y).toInt = w32 (x.toInt * y.toInt) := by rw [w32_b, Int32.toInt_mul]
theorem n_neg (x : Int32) : (-x).toInt = w32 (-x.toInt) := by rw [w32_b, Int32.toInt_neg]
theorem n_div (x y : Int32) : (x / y).toInt = w32 (Int.tdiv x.toInt y.toInt) := by rw [w32_b, Int32.toInt_div]
theorem n_o (x : Int32) : Int32.ofInt x.toInt = x := Int32.ofInt_toInt x
theorem m_o (x : Int64) : Int64.ofInt x.toInt = x := Int64.ofInt_toInt x
theorem n_of {n : Int} (h : w32 n = n) : (Int32.ofInt n).toInt = n := by
  rw [Int32.toInt_ofInt, ← w32_b]; exact h
theorem m_of {n : Int} (h : w64 n = n) : (Int64.ofInt n).toInt = n := by
  rw [Int64.toInt_ofInt, ← w64_b]; exact h
theorem m_add (x y : Int64) : (x + y).toInt = w64 (x.toInt + y.toInt) := by rw [w64_b, Int64.toInt_add]
theorem n_rem (x y : Int32) (hy : ¬ y = 0) : (x - x / y * y).toInt = Int.tmod x.toInt y.toInt := by
  have hy0 : y.toInt ≠ 0 := fun h => hy (Int32.toInt_inj.mp (by simpa using h))
  rw [n_sub, n_mul, n_div]
  have hx := n_r x
  have hyr := n_r y
  generalize x.toInt = X at *
  generalize y.toInt = Y at *
  have e : Y * X.tdiv Y + X.tmod Y = X := Int.mul_tdiv_add_tmod X Y
  have hb : (X.tmod Y).natAbs < Y.natAbs := by
    rw [Int.natAbs_tmod]; exact Nat.mod_lt _ (by omega)
  have hq : (X.tdiv Y).natAbs = X.natAbs / Y.natAbs := Int.natAbs_tdiv X Y
  by_cases hs : w32 (X.tdiv Y) = X.tdiv Y
  · rw [hs, Int.mul_comm, show X - w32 (Y * X.tdiv Y) = X - w32 (Y * X.tdiv Y) from rfl]
    have hp : Y * X.tdiv Y = X - X.tmod Y := by omega
    rw [hp]
    unfold w32
    omega
  · have hd : X.natAbs / Y.natAbs ≤ X.natAbs := Nat.div_le_self _ _
    have h3 : (X.tdiv Y) = 2147483648 := by
      unfold w32 at hs
      omega
    have h4 : X.natAbs = 2147483648 := by omega
    have hX : X = -2147483648 := by omega
    subst hX
    have hY : Y.natAbs = 1 := by
      have h5 : 2147483648 / Y.natAbs = 2147483648 := by
        rw [h3] at hq
        simpa using hq.symm
      rcases Nat.lt_or_ge 1 Y.natAbs with g | g
      · have := Nat.div_lt_self (show 0 < 2147483648 by omega) g
        omega
      · omega
    have hYY : Y = 1 ∨ Y = -1 := by omega
    rcases hYY with rfl | rfl
    · decide
    · decide
theorem n_lt {x y : Int32} : x < y ↔ x.toInt < y.toInt := Int32.lt_iff_toInt_lt
theorem n_le {x y : Int32} : x ≤ y ↔ x.toInt ≤ y.toInt := Int32.le_iff_toInt_le
theorem n_eq {x y : Int32} : x = y ↔ x.toInt = y.toInt := Int32.toInt_inj.symm
theorem n_0 : (0 : Int32).toInt = 0 := rfl
theorem n_cl (x : Int32) : x.toNatClampNeg = x.toInt.toNat := rfl
theorem n_in {x : Int32} {n : Nat} (h : 0 ≤ x.toInt ∧ x.toInt < n) : vp_in x n := by
  intro q
  rcases q with q | q
  · rw [n_lt] at q; simp at q; omega
  · rw [n_cl] at q; omega
theorem n_nn {x : Int32} (h : 0 ≤ x.toInt) : ¬ x < 0 := by rw [n_lt]; simp; exact h
theorem n_8 {n : Int} (h : -128 ≤ n ∧ n ≤ 127) : ((Int8.ofInt n).toInt32).toInt = n := by
  rw [Int8.toInt_toInt32, Int8.toInt_ofInt]
  unfold Int.bmod
  simp only [show ((2 ^ 8 : Nat) : Int) = 256 from rfl]
  split <;> omega
theorem n_16 {n : Int} (h : -32768 ≤ n ∧ n ≤ 32767) : ((Int16.ofInt n).toInt32).toInt = n := by
  rw [Int16.toInt_toInt32, Int16.toInt_ofInt]
  unfold Int.bmod
  simp only [show ((2 ^ 16 : Nat) : Int) = 65536 from rfl]
  split <;> omega
theorem n_l (x : Int32) : x.toInt64.toInt = x.toInt := Int32.toInt_toInt64 x
theorem m_i (x : Int64) : x.toInt32.toInt = w32 x.toInt := by rw [w32_b, Int64.toInt_toInt32]
theorem m_lt {x y : Int64} : x < y ↔ x.toInt < y.toInt := Int64.lt_iff_toInt_lt
theorem m_eq {x y : Int64} : x = y ↔ x.toInt = y.toInt := Int64.toInt_inj.symm
theorem m_cmp (x y : Int64) : (lg_cmp x y).toInt = if y.toInt < x.toInt then 1 else if x.toInt = y.toInt then 0 else -1 := by
  unfold lg_cmp
  by_cases h1 : y < x
  · rw [if_pos h1, if_pos (m_lt.mp h1)]; rfl
  · rw [if_neg h1, if_neg (fun q => h1 (m_lt.mpr q))]
    by_cases h2 : x = y
    · rw [if_pos h2, if_pos (m_eq.mp h2)]; rfl
    · rw [if_neg h2, if_neg (fun q => h2 (m_eq.mpr q))]; rfl
theorem n_nat {n : Nat} (h : n < 2147483648) : (Int32.ofNat n).toInt = n := by
  have := nI_toInt (n := n) (by omega)
  exact this
/-! a value, a stack, the locals, a cell, a world: of the machine and of the pure machine -/
def rv (b : Nat) (ads : List Nat) (v : PV) (x : Value) : Prop := match v with
  | .inl a => ∃ y : Int32, x = .int y ∧ y.toInt = a
  | .inr (.inl a) => ∃ y : Int64, x = .long y ∧ y.toInt = a
  | .inr (.inr (.inl p)) => ∃ a, ads[p]? = some a ∧ x = .ref a
  | .inr (.inr (.inr _)) => x = .ref b
def sv (b : Nat) (ads : List Nat) : List PV → List Value → Prop
  | [], [] => True
  | v :: st, x :: xs => rv b ads v x ∧ sv b ads st xs
  | _, _ => False
def lr (b : Nat) (ads : List Nat) (L : LSt) (ls : Array Slot) : Prop := ls.size = L.length ∧ lv_wf ls ∧ ∀ (i : Nat) (v : PV), L[i]? = some (some v) → ∃ x, ls[i]? = some (.val x) ∧ rv b ads v x
def fvr (ads : List Nat) (t g : Nat) (x : Int) (v : Value) : Prop := match t with
  | 2 => (g = 0 ∧ v = .null) ∨ ∃ q a, g = q + 1 ∧ ads[q]? = some a ∧ v = .ref a
  | 1 => ∃ y : Int64, v = .long y ∧ y.toInt = x
  | _ => ∃ y : Int32, v = .int y ∧ y.toInt = x
def cr (cI cZ cL : ClassId) (ads : List Nat) (g : Nat → Nat) (h : Nat → Int) (s : Nat ⊕ (Nat × Nat)) (e : va_E) : Prop := match s with
  | .inl ci => ∃ fs, e = .inr (ci, fs) ∧ vwCl[ci]? = some (clT ci) ∧ fs.length = (clT ci).2.2 ∧ ∀ (k : Nat) (v : Value), fs[k]? = some v → fvr ads (fcl ci k) (g k) (h k) v
  | .inr (0, n) => ∃ f : Nat → Int32, e = .inl (cI, n, .inl f) ∧ ∀ j, j < n → (f j).toInt = h j
  | .inr (1, n) => ∃ f : Nat → Int32, e = .inl (cZ, n, .inl f) ∧ ∀ j, j < n → (f j).toInt = h j
  | .inr (2, n) => ∃ f : Nat → Int64, e = .inl (cL, n, .inr (.inl f)) ∧ ∀ j, j < n → (f j).toInt = h j
  | .inr _ => False
def wr (cI cZ cL : ClassId) (ads : List Nat) (w : WD) (h : HP) (ws : va_W) : Prop := ws.map (fun q => q.1) = ads ∧ ws.length = w.1.length ∧ ∀ (p : Nat) (s : Nat ⊕ (Nat × Nat)), w.1[p]? = some s → ∃ a e, ws[p]? = some (a, e) ∧ cr cI cZ cL ads (w.2 p) (h p) s e
theorem get_app {α : Type} {l t : List α} {i : Nat} {a : α} (h : l[i]? = some a) : (l ++ t)[i]? = some a := by
  have hl : i < l.length := (List.getElem?_eq_some_iff.mp h).1
  rw [List.getElem?_append_left hl]; exact h
theorem rv.mono {b : Nat} {ads t : List Nat} {v : PV} {x : Value} (h : rv b ads v x) : rv b (ads ++ t) v x := by
  unfold rv at *
  split at h
  · exact h
  · exact h
  · obtain ⟨a, h1, h2⟩ := h
    exact ⟨a, get_app h1, h2⟩
  · exact h
theorem sv.mono {b : Nat} {ads t : List Nat} : ∀ {st : List PV} {vs : List Value}, sv b ads st vs → sv b (ads ++ t) st vs
  | [], [], _ => trivial
  | _ :: _, _ :: _, h => ⟨h.1.mono, sv.mono h.2⟩
  | [], _ :: _, h => h.elim
  | _ :: _, [], h => h.elim
theorem lr.mono {b : Nat} {ads t : List Nat} {L : LSt} {ls : Array Slot} (h : lr b ads L ls) : lr b (ads ++ t) L ls := ⟨h.1, h.2.1, fun i v hi => by
  obtain ⟨x, h1, h2⟩ := h.2.2 i v hi
  exact ⟨x, h1, h2.mono⟩⟩
theorem fvr.mono {ads u : List Nat} {t g : Nat} {x : Int} {v : Value} (h : fvr ads t g x v) : fvr (ads ++ u) t g x v := by
  unfold fvr at *
  split at h
  · rcases h with h | ⟨q, a, h1, h2, h3⟩
    · exact Or.inl h
    · exact Or.inr ⟨q, a, h1, get_app h2, h3⟩
  · exact h
  · exact h
theorem cr.mono {cI cZ cL : ClassId} {ads u : List Nat} {g : Nat → Nat} {h : Nat → Int} {s : Nat ⊕ (Nat × Nat)} {e : va_E} (H : cr cI cZ cL ads g h s e) : cr cI cZ cL (ads ++ u) g h s e := by
  unfold cr at *
  split at H
  · obtain ⟨fs, h1, h2, h3, h4⟩ := H
    exact ⟨fs, h1, h2, h3, fun k v hk => (h4 k v hk).mono⟩
  · exact H
  · exact H
  · exact H
  · exact H.elim
theorem wr.at {cI cZ cL : ClassId} {ads : List Nat} {w : WD} {h : HP} {ws : va_W} (H : wr cI cZ cL ads w h ws) {p : Nat} {s : Nat ⊕ (Nat × Nat)} (hp : w.1[p]? = some s) {a : Nat} (ha : ads[p]? = some a) : ∃ e, ws[p]? = some (a, e) ∧ cr cI cZ cL ads (w.2 p) (h p) s e := by
  obtain ⟨a', e, h1, h2⟩ := H.2.2 p s hp
  have h3 : (ws.map (fun q => q.1))[p]? = some a' := by rw [List.getElem?_map, h1]; rfl
  rw [H.1, ha] at h3
  cases h3
  exact ⟨e, h1, h2⟩
/-- a cell takes other contents -/
theorem wr.put {cI cZ cL : ClassId} {ads : List Nat} {w : WD} {h : HP} {ws : va_W} (H : wr cI cZ cL ads w h ws) {p : Nat} {s : Nat ⊕ (Nat × Nat)} (hp : w.1[p]? = some s) {a : Nat} {e0 e : va_E} (ha : ws[p]? = some (a, e0)) {g' : Nat → Nat → Nat} {h' : HP} (hg : ∀ q, q ≠ p → g' q = w.2 q) (hh : ∀ q, q ≠ p → h' q = h q)
    (hc : cr cI cZ cL ads (g' p) (h' p) s e) : wr cI cZ cL ads (w.1, g') h' (ws.set p (a, e)) := by
  have hl : p < ws.length := (List.getElem?_eq_some_iff.mp ha).1
  refine ⟨?_, by rw [List.length_set]; exact H.2.1, fun q s' hq => ?_⟩
  · rw [← H.1]
    apply List.ext_getElem?
    intro i
    simp only [List.getElem?_map, List.getElem?_set]
    by_cases hi : p = i
    · subst hi
      rw [ha]
      simp [hl]
    · simp [hi]
  · by_cases hqp : q = p
    · subst hqp
      have : s' = s := Option.some.inj (hq.symm.trans hp)
      subst this
      exact ⟨a, e, by rw [List.getElem?_set]; simp [hl], hc⟩
    · obtain ⟨a', e', h1, h2⟩ := H.2.2 q s' hq
      refine ⟨a', e', by rw [List.getElem?_set]; simp [Ne.symm hqp]; exact h1, ?_⟩
      show cr cI cZ cL ads (g' q) (h' q) s' e'
      rw [hg q hqp, hh q hqp]
      exact h2
/-- a new cell -/
theorem wr.app {cI cZ cL : ClassId} {ads : List Nat} {w : WD} {h : HP} {ws : va_W} (H : wr cI cZ cL ads w h ws) {s : Nat ⊕ (Nat × Nat)} {a : Nat} {e : va_E} (hc : cr cI cZ cL (ads ++ [a]) (fun _ => 0) (fun _ => 0) s e) :
    wr cI cZ cL (ads ++ [a]) (w.1 ++ [s], clg w.2 w.1.length) (clr h w.1.length) (ws ++ [(a, e)]) := by
  refine ⟨by rw [List.map_append, H.1]; rfl, by simp [H.2.1], fun p s' hp => ?_⟩
  by_cases hl : p < w.1.length
  · have hp' : w.1[p]? = some s' := by
      have : (w.1 ++ [s])[p]? = some s' := hp
      rwa [List.getElem?_append_left hl] at this
    obtain ⟨a', e', h1, h2⟩ := H.2.2 p s' hp'
    refine ⟨a', e', get_app h1, ?_⟩
    have e1 : clg w.2 w.1.length p = w.2 p := by funext j; simp [clg]; omega
    have e2 : clr h w.1.length p = h p := by funext j; simp [clr]; omega
    show cr cI cZ cL (ads ++ [a]) (clg w.2 w.1.length p) (clr h w.1.length p) s' e'
    rw [e1, e2]
    exact h2.mono
  · have h0 : (w.1 ++ [s])[p]? = some s' := hp
    rw [List.getElem?_append_right (by omega)] at h0
    have hz : p - w.1.length < 1 := (List.getElem?_eq_some_iff.mp h0).1
    have hpe : p = w.1.length := by omega
    subst hpe
    simp at h0
    subst h0
    refine ⟨a, e, ?_, ?_⟩
    · rw [← H.2.1, List.getElem?_append_right (Nat.le_refl _)]; simp
    · have e1 : clg w.2 w.1.length w.1.length = (fun _ => 0) := by funext j; simp [clg]
      have e2 : clr h w.1.length w.1.length = (fun _ => 0) := by funext j; simp [clr]
      show cr cI cZ cL (ads ++ [a]) (clg w.2 w.1.length w.1.length) (clr h w.1.length w.1.length) s e
      rw [e1, e2]
      exact hc
