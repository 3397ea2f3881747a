/-! the pure machine run on rows of numbers: for the constructors -/
abbrev SHp : Type := List (Nat ⊕ (Nat × Nat))
abbrev GW : Type := List (List Nat)
abbrev RW : Type := List (List Int)
def den (t : RW) : HP := fun p j => (t.getD p []).getD j 0
def deng (t : GW) : Nat → Nat → Nat := fun p j => (t.getD p []).getD j 0
def stR (t : RW) (p i : Nat) (v : Int) : RW := t.set p ((t.getD p []).set i v)
def stG (t : GW) (p i : Nat) (v : Nat) : GW := t.set p ((t.getD p []).set i v)
theorem getD_out {α : Type} {l : List α} {n : Nat} {d : α} (h : l.length ≤ n) : l.getD n d = d := by
  rw [List.getD_eq_getElem?_getD, List.getElem?_eq_none h]; rfl
theorem den_set {t : RW} {p i : Nat} {v : Int} (hi : i < (t.getD p []).length) : up2 (den t) p i v = den (stR t p i v) := by
  have hp : p < t.length := by
    rcases Nat.lt_or_ge p t.length with h | h
    · exact h
    · rw [getD_out h] at hi; simp at hi
  funext q j
  unfold up2 den stR
  by_cases hq : q = p
  · subst hq
    by_cases hj : j = i
    · subst hj
      simp only [and_self, if_true, List.getD_eq_getElem?_getD, List.getElem?_set_self hp, Option.getD_some]
      rw [List.getElem?_set_self (by rw [← List.getD_eq_getElem?_getD]; exact hi)]; rfl
    · simp only [hj, and_false, if_false, List.getD_eq_getElem?_getD, List.getElem?_set_self hp, Option.getD_some]
      rw [List.getElem?_set_ne (Ne.symm hj)]
  · simp only [hq, false_and, if_false, List.getD_eq_getElem?_getD]
    rw [List.getElem?_set_ne (Ne.symm hq)]
theorem deng_set {t : GW} {p i : Nat} {v : Nat} (hi : i < (t.getD p []).length) : ug2 (deng t) p i v = deng (stG t p i v) := by
  have hp : p < t.length := by
    rcases Nat.lt_or_ge p t.length with h | h
    · exact h
    · rw [getD_out h] at hi; simp at hi
  funext q j
  unfold ug2 deng stG
  by_cases hq : q = p
  · subst hq
    by_cases hj : j = i
    · subst hj
      simp only [and_self, if_true, List.getD_eq_getElem?_getD, List.getElem?_set_self hp, Option.getD_some]
      rw [List.getElem?_set_self (by rw [← List.getD_eq_getElem?_getD]; exact hi)]; rfl
    · simp only [hj, and_false, if_false, List.getD_eq_getElem?_getD, List.getElem?_set_self hp, Option.getD_some]
      rw [List.getElem?_set_ne (Ne.symm hj)]
  · simp only [hq, false_and, if_false, List.getD_eq_getElem?_getD]
    rw [List.getElem?_set_ne (Ne.symm hq)]
theorem rep_0 {α : Type} (n j : Nat) (z : α) : (List.replicate n z).getD j z = z := by
  rw [List.getD_eq_getElem?_getD, List.getElem?_replicate]
  split <;> rfl
theorem den_app {t : RW} {n : Nat} : clr (den t) t.length = den (t ++ [List.replicate n 0]) := by
  funext q j
  unfold clr den
  by_cases hq : q = t.length
  · subst hq
    simp only [if_true, List.getD_eq_getElem?_getD, List.getElem?_append_right (Nat.le_refl _), Nat.sub_self]
    have := rep_0 n j (0 : Int)
    rw [List.getD_eq_getElem?_getD] at this
    simpa using this.symm
  · rw [if_neg hq]
    rcases Nat.lt_or_ge q t.length with h | h
    · simp only [List.getD_eq_getElem?_getD, List.getElem?_append_left h]
    · rw [getD_out h, getD_out (l := t ++ _) (by simp; omega)]
theorem deng_app {t : GW} {n : Nat} : clg (deng t) t.length = deng (t ++ [List.replicate n 0]) := by
  funext q j
  unfold clg deng
  by_cases hq : q = t.length
  · subst hq
    simp only [if_true, List.getD_eq_getElem?_getD, List.getElem?_append_right (Nat.le_refl _), Nat.sub_self]
    have := rep_0 n j (0 : Nat)
    rw [List.getD_eq_getElem?_getD] at this
    simpa using this.symm
  · rw [if_neg hq]
    rcases Nat.lt_or_ge q t.length with h | h
    · simp only [List.getD_eq_getElem?_getD, List.getElem?_append_left h]
    · rw [getD_out h, getD_out (l := t ++ _) (by simp; omega)]
def exr : Nat → Nat → Nat → Nat → LSt → List PV → Nat × Nat → SHp → GW → RW → Option (PV × SHp × GW × RW)
  | 0, _, _, _, _, _, _, _, _, _ => none
  | n + 1, d, μ, pc, L, st, k, sh, gr, hr => match cdA μ pc with
    | none => none
    | some i => match i with
      | .iconst c => if w32 c = c then exr n d μ (pc + 1) L (.inl c :: st) k sh gr hr else none
      | .bipush c => if -128 ≤ c ∧ c ≤ 127 then exr n d μ (pc + 2) L (.inl c :: st) k sh gr hr else none
      | .sipush c => if -32768 ≤ c ∧ c ≤ 32767 then exr n d μ (pc + 3) L (.inl c :: st) k sh gr hr else none
      | .aload_n j => (match L[(j : Nat)]? with
        | some (some (.inr (.inr (.inl p)))) => exr n d μ (pc + 1) L (.inr (.inr (.inl p)) :: st) k sh gr hr
        | _ => none)
      | .iload_n j => (match L[(j : Nat)]? with
        | some (some (.inl a)) => exr n d μ (pc + 1) L (.inl a :: st) k sh gr hr
        | _ => none)
      | .istore_n j => (match st with
        | .inl a :: st => if (Nat.blt (j : Nat) L.length && noJ L (j : Nat)) = true then exr n d μ (pc + 1) (L.set (j : Nat) (some (.inl a))) st k sh gr hr else none
        | _ => none)
      | .iinc j c => (match L[j]? with
        | some (some (.inl a)) => if w32 c = c ∧ (Nat.blt j L.length && noJ L j) = true then exr n d μ (pc + 3) (L.set j (some (.inl (w32 (a + c))))) st k sh gr hr else none
        | _ => none)
      | .dup => (match st with
        | .inr (.inr (.inl p)) :: st => exr n d μ (pc + 1) L (.inr (.inr (.inl p)) :: .inr (.inr (.inl p)) :: st) k sh gr hr
        | _ => none)
      | .imul => (match st with
        | .inl b :: .inl a :: st => exr n d μ (pc + 1) L (.inl (w32 (a * b)) :: st) k sh gr hr
        | _ => none)
      | .goto off => if 0 ≤ (pc : Int) + off then exr n d μ ((pc : Int) + off).toNat L st k sh gr hr else none
      | .if_icmp .ge off => (match st with
        | .inl b :: .inl a :: st => if 0 ≤ (pc : Int) + off then (if b ≤ a then exr n d μ ((pc : Int) + off).toNat L st k sh gr hr else exr n d μ (pc + 3) L st k sh gr hr) else none
        | _ => none)
      | .getfield j => (match st with
        | .inr (.inr (.inl p)) :: st => (match fldR (moN μ) j with
          | some (ci, kk) => if sh[p]? = some (.inl ci) ∧ fcl ci kk = 2 then (match deng gr p kk with
            | 0 => none
            | q + 1 => exr n d μ (pc + 3) L (.inr (.inr (.inl q)) :: st) k sh gr hr) else none
          | none => none)
        | _ => none)
      | .putfield j => (match st with
        | .inl a :: .inr (.inr (.inl p)) :: st => (match fldR (moN μ) j with
          | some (ci, kk) => if (gdP μ ci kk = true ∧ sh[p]? = some (.inl ci)) ∧ fcl ci kk = 0 ∧ kk < (hr.getD p []).length then exr n d μ (pc + 3) L st k sh gr (stR hr p kk a) else none
          | none => none)
        | .inr (.inr (.inl q)) :: .inr (.inr (.inl p)) :: st => (match fldR (moN μ) j with
          | some (ci, kk) => if (gdP μ ci kk = true ∧ sh[p]? = some (.inl ci)) ∧ fcl ci kk = 2 ∧ kk < (gr.getD p []).length then exr n d μ (pc + 3) L st k sh (stG gr p kk (q + 1)) hr else none
          | none => none)
        | _ => none)
      | .iastore => (match st with
        | .inl v :: .inl i :: .inr (.inr (.inl p)) :: st => (match sh[p]? with
          | some (.inr (0, m)) => if (0 ≤ i ∧ i < (m : Int)) ∧ i.toNat < (hr.getD p []).length then exr n d μ (pc + 1) L st k sh gr (stR hr p i.toNat v) else none
          | _ => none)
        | _ => none)
      | .arraylength => (match st with
        | .inr (.inr (.inl p)) :: st => (match sh[p]? with
          | some (.inr (0, m)) => if m < 2147483648 then exr n d μ (pc + 1) L (.inl m :: st) k sh gr hr else none
          | _ => none)
        | _ => none)
      | .newarray t => (match st with
        | .inl c :: st => if ((0 ≤ c ∧ c ≤ 60000000) ∧ (Nat.ble (k.1 + 1) (mcO μ) && Nat.ble (k.2 + c.toNat) (msO μ)) = true) ∧ gr.length = sh.length ∧ hr.length = sh.length then
          (match t with
          | .int => exr n d μ (pc + 2) L (.inr (.inr (.inl sh.length)) :: st) (k.1 + 1, k.2 + c.toNat) (sh ++ [.inr (0, c.toNat)]) (gr ++ [[]]) (hr ++ [List.replicate c.toNat 0])
          | .boolean => exr n d μ (pc + 2) L (.inr (.inr (.inl sh.length)) :: st) (k.1 + 1, k.2 + c.toNat) (sh ++ [.inr (1, c.toNat)]) (gr ++ [[]]) (hr ++ [List.replicate c.toNat 0])
          | .long => exr n d μ (pc + 2) L (.inr (.inr (.inl sh.length)) :: st) (k.1 + 1, k.2 + c.toNat) (sh ++ [.inr (2, c.toNat)]) (gr ++ [[]]) (hr ++ [List.replicate c.toNat 0])
          | _ => none) else none
        | _ => none)
      | .new j => (match newR (moN μ) j with
        | some ci => if (Nat.ble (k.1 + 1) (mcO μ) && Nat.ble (k.2 + (clT ci).2.2) (msO μ)) = true ∧ gr.length = sh.length ∧ hr.length = sh.length then exr n d μ (pc + 3) L (.inr (.inr (.inl sh.length)) :: st) (k.1 + 1, k.2 + (clT ci).2.2) (sh ++ [.inl ci]) (gr ++ [List.replicate (clT ci).2.2 0]) (hr ++ [List.replicate (clT ci).2.2 0]) else none
        | none => none)
      | .invokespecial j => (match mthR (moN μ) j with
        | 1 => (match st with
          | .inr (.inr (.inl _)) :: st => if cat8 st = true then exr n d μ (pc + 3) L st k sh gr hr else none
          | _ => none)
        | ν + 3 => (match st.drop (mA ν) with
          | .inr (.inr (.inl p)) :: rest => if ((mY ν).name = "<init>" ∧ sh[p]? = some (.inl (moN ν))) ∧ gdC μ ν true st rest k = true ∧ iniOk (mL ν) (.inr (.inr (.inl p)) :: (st.take (mA ν)).reverse) = true then (match d with
            | 0 => none
            | d + 1 => (match exr n d ν 0 (iniL (mL ν) (.inr (.inr (.inl p)) :: (st.take (mA ν)).reverse)) [] (0, 0) sh gr hr with
              | some (r, sh', gr', hr') => exr n (d + 1) μ (pc + 3) L (psh ν r rest) (k.1 + mcO ν, k.2 + msO ν) sh' gr' hr'
              | none => none)) else none
          | _ => none)
        | _ => none)
      | .invokestatic j => (match mthR (moN μ) j with
        | ν + 3 => if gdC μ ν false st (st.drop (mA ν)) k = true ∧ iniOk (mL ν) (st.take (mA ν)).reverse = true then (match d with
            | 0 => none
            | d + 1 => (match exr n d ν 0 (iniL (mL ν) (st.take (mA ν)).reverse) [] (0, 0) sh gr hr with
              | some (r, sh', gr', hr') => exr n (d + 1) μ (pc + 3) L (psh ν r (st.drop (mA ν))) (k.1 + mcO ν, k.2 + msO ν) sh' gr' hr'
              | none => none)) else none
        | _ => none)
      | .return_ => (match st with
        | [] => if mK μ = 4 then some (.inl 0, sh, gr, hr) else none
        | _ => none)
      | _ => none
