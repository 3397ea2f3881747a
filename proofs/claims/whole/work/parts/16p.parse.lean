/-! a text as both read it: whether it is right, where it ends or is wrong, its steps, what it says; E: plates 0 .. 9, sun 10, hour 11 -/
abbrev PRS : Type := Bool × Nat × List Int × ((Nat → Int) → Bool)
abbrev CRS : Type := Bool × Nat × List Int × ((Nat → Int) → Int)
def nxc (b : Nat → Int) (n a : Nat) : Int := if a < n then b a else -1
def pFl (a : Nat) : PRS := (false, a, [], fun _ => false)
def cFl (a : Nat) : CRS := (false, a, [], fun _ => -1)
def dgt (b : Nat → Int) (n a : Nat) (most : Int) : Int := if 0 ≤ nxc b n a - 48 ∧ nxc b n a - 48 ≤ most then nxc b n a - 48 else -1
def cmpF (x sg num : Int) : Bool := if sg = 0 then decide (x < num) else if sg = 1 then decide (x = num) else decide (num < x)
def stF (what sg num : Int) : Int := 1048576 + what * 4096 + sg * 1024 + num
def pOk (what sg num : Int) (a : Nat) : PRS := (true, a, [stF what sg num], fun E => cmpF (E what.toNat) sg num)
def pNm (b : Nat → Int) (n : Nat) (what sg : Int) (a : Nat) : PRS :=
  if dgt b n a 9 < 0 then pFl a
  else if dgt b n (a + 1) 9 < 0 then pOk what sg (dgt b n a 9) (a + 1)
  else if dgt b n (a + 2) 9 < 0 then pOk what sg (10 * dgt b n a 9 + dgt b n (a + 1) 9) (a + 2)
  else pOk what sg (10 * (10 * dgt b n a 9 + dgt b n (a + 1) 9) + dgt b n (a + 2) 9) (a + 3)
def pCm (b : Nat → Int) (n : Nat) (what : Int) (a : Nat) : PRS := if 0 ≤ nxc b n a - 60 ∧ nxc b n a - 60 < 3 then pNm b n what (nxc b n a - 60) (a + 1) else pFl a
def pFa (b : Nat → Int) (n a : Nat) : PRS :=
  if nxc b n a = 115 then pCm b n 10 (a + 1)
  else if nxc b n a = 104 then pCm b n 11 (a + 1)
  else if nxc b n a = 119 then (if dgt b n (a + 1) 9 < 0 then pFl (a + 1) else pCm b n (dgt b n (a + 1) 9) (a + 2))
  else pFl a
def pLp (c op : Int) (f : Bool → Bool → Bool) (pp : Nat → PRS) (b : Nat → Int) (n : Nat) : Nat → PRS → PRS
  | 0, r => r
  | k + 1, r => if nxc b n r.2.1 = c then (if (pp (r.2.1 + 1)).1 = true then pLp c op f pp b n k (true, (pp (r.2.1 + 1)).2.1, r.2.2.1 ++ ((pp (r.2.1 + 1)).2.2.1 ++ [op]), fun E => f (r.2.2.2 E) ((pp (r.2.1 + 1)).2.2.2 E)) else pFl (pp (r.2.1 + 1)).2.1) else r
def pPs (pp : Nat → PRS) (b : Nat → Int) (n a : Nat) : PRS := if (pp a).1 = true then pLp 38 3145728 and pp b n 40 (pp a) else pFl (pp a).2.1
def pTs (pp : Nat → PRS) (b : Nat → Int) (n a : Nat) : PRS := if (pPs pp b n a).1 = true then pLp 124 4194304 or (pPs pp b n) b n 40 (pPs pp b n a) else pFl (pPs pp b n a).2.1
def pNo (r : PRS) : PRS := if r.1 = true then (true, r.2.1, r.2.2.1 ++ [2097152], fun E => !(r.2.2.2 E)) else pFl r.2.1
def pCl (b : Nat → Int) (n : Nat) (r : PRS) : PRS := if r.1 = true then (if nxc b n r.2.1 = 41 then (true, r.2.1 + 1, r.2.2.1, r.2.2.2) else pFl r.2.1) else pFl r.2.1
def pPt (b : Nat → Int) (n : Nat) : Nat → Nat → PRS
  | 0, a => if nxc b n a = 33 then pFl a else if nxc b n a = 40 then pFl a else pFa b n a
  | k + 1, a => if nxc b n a = 33 then pNo (pPt b n k (a + 1)) else if nxc b n a = 40 then pCl b n (pTs (pPt b n k) b n (a + 1)) else pFa b n a
def pCs (b : Nat → Int) (n : Nat) (most : Int) : Nat → Nat → List Int → ((Nat → Int) → Int) → CRS
  | 0, a, _, _ => cFl a
  | k + 1, a, st, tl =>
    if (pTs (pPt b n 4) b n a).1 = true then
      (if nxc b n (pTs (pPt b n 4) b n a).2.1 = 63 then
        (if dgt b n ((pTs (pPt b n 4) b n a).2.1 + 1) most < 0 then cFl ((pTs (pPt b n 4) b n a).2.1 + 1)
        else if n ≤ (pTs (pPt b n 4) b n a).2.1 + 2 then (true, (pTs (pPt b n 4) b n a).2.1 + 2, st ++ ((pTs (pPt b n 4) b n a).2.2.1 ++ [5242880 + dgt b n ((pTs (pPt b n 4) b n a).2.1 + 1) most]), fun E => if tl E < 0 ∧ (pTs (pPt b n 4) b n a).2.2.2 E = true then dgt b n ((pTs (pPt b n 4) b n a).2.1 + 1) most else tl E)
        else if nxc b n ((pTs (pPt b n 4) b n a).2.1 + 2) = 59 then pCs b n most k ((pTs (pPt b n 4) b n a).2.1 + 3) (st ++ ((pTs (pPt b n 4) b n a).2.2.1 ++ [5242880 + dgt b n ((pTs (pPt b n 4) b n a).2.1 + 1) most])) (fun E => if tl E < 0 ∧ (pTs (pPt b n 4) b n a).2.2.2 E = true then dgt b n ((pTs (pPt b n 4) b n a).2.1 + 1) most else tl E)
        else cFl ((pTs (pPt b n 4) b n a).2.1 + 2))
      else cFl (pTs (pPt b n 4) b n a).2.1)
    else cFl (pTs (pPt b n 4) b n a).2.1
def mostT (t : Nat) : Int := if t < 4 then 1 else 2
/-- a kept text, read from its fourth byte on -/
def pRow (text : Nat → Int) (t n : Nat) : CRS := pCs (fun j => text (40 * t + j)) n (mostT t) 40 3 [] (fun _ => -1)
