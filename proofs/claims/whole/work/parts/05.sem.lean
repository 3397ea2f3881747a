/-! The pure machine: one instruction 'stp', a run 'WP' as the least Q-monotone relation that the instructions keep. Values: .inl int, .inr (.inl long), .inr (.inr (.inl place of a cell)), .inr (.inr (.inr script)). -/
abbrev PV : Type := Int ⊕ Int ⊕ Nat ⊕ Unit
abbrev WD : Type := List (Nat ⊕ (Nat × Nat)) × (Nat → Nat → Nat)
abbrev HP : Type := Nat → Nat → Int
abbrev KK : Type := PV → WD → HP → Prop
abbrev LSt : Type := List (Option PV)
abbrev SC : Type := Nat × (Nat → Int)
abbrev NX : Type := Nat → LSt → List PV → Nat × Nat → WD → HP → Prop
abbrev CLT : Type := Nat → List PV → WD → HP → KK → Prop
def w32 (x : Int) : Int := (x + 2147483648) % 4294967296 - 2147483648
def w64 (x : Int) : Int := (x + 9223372036854775808) % 18446744073709551616 - 9223372036854775808
def bAnd (a b : Int) : Int := (Int32.ofInt a &&& Int32.ofInt b).toInt
def bOr (a b : Int) : Int := (Int32.ofInt a ||| Int32.ofInt b).toInt
def bXor (a b : Int) : Int := (Int32.ofInt a ^^^ Int32.ofInt b).toInt
def bShl (a b : Int) : Int := (Int32.ofInt a <<< (Int32.ofInt b &&& 31)).toInt
def bShr (a b : Int) : Int := (Int32.ofInt a >>> (Int32.ofInt b &&& 31)).toInt
def bUsh (a b : Int) : Int := ((Int32.ofInt a).toUInt32 >>> ((Int32.ofInt b).toUInt32 &&& Int32.toUInt32 31)).toInt32.toInt
def lAnd (a b : Int) : Int := (Int64.ofInt a &&& Int64.ofInt b).toInt
def lOr (a b : Int) : Int := (Int64.ofInt a ||| Int64.ofInt b).toInt
def lShl (a b : Int) : Int := (Int64.ofInt a <<< ((Int32.ofInt b).toInt64 &&& 63)).toInt
def lShr (a b : Int) : Int := (Int64.ofInt a >>> ((Int32.ofInt b).toInt64 &&& 63)).toInt
def lUsh (a b : Int) : Int := ((Int64.ofInt a).toUInt64 >>> ((Int32.ofInt b).toInt64.toUInt64 &&& Int64.toUInt64 63)).toInt64.toInt
def up2 (h : HP) (p i : Nat) (v : Int) : HP := fun q j => if q = p ∧ j = i then v else h q j
def ug2 (g : Nat → Nat → Nat) (p i : Nat) (v : Nat) : Nat → Nat → Nat := fun q j => if q = p ∧ j = i then v else g q j
def clr (h : HP) (p : Nat) : HP := fun q j => if q = p then 0 else h q j
def clg (g : Nat → Nat → Nat) (p : Nat) : Nat → Nat → Nat := fun q j => if q = p then 0 else g q j
def cpy (h : HP) (p q sp dp n : Nat) : HP := fun a i => if a = q ∧ (dp ≤ i ∧ i < dp + n) then h p (sp + (i - dp)) else h a i
def pcat (v : PV) : Nat := match v with
  | .inr (.inl _) => 2
  | _ => 1
def cat8 (st : List PV) : Bool := Nat.ble (st.map pcat).sum 8
def ldI (L : LSt) (i : Nat) (f : Int → Prop) : Prop := match L[i]? with
  | some (some (.inl a)) => f a
  | _ => False
def ldJ (L : LSt) (i : Nat) (f : Int → Prop) : Prop := match L[i]? with
  | some (some (.inr (.inl a))) => f a
  | _ => False
def ldA (L : LSt) (i : Nat) (f : PV → Prop) : Prop := match L[i]? with
  | some (some (.inr (.inr v))) => f (.inr (.inr v))
  | _ => False
def noJ (L : LSt) (i : Nat) : Bool := match i with
  | 0 => true
  | j + 1 => match L[j]? with
    | some (some (.inr (.inl _))) => false
    | _ => true
def stV (L : LSt) (i : Nat) (v : PV) (f : LSt → Prop) : Prop := (Nat.blt i L.length && noJ L i) = true ∧ f (L.set i (some v))
def i1 (st : List PV) (f : Int → List PV → Prop) : Prop := match st with
  | .inl a :: st => f a st
  | _ => False
def i2 (st : List PV) (f : Int → Int → List PV → Prop) : Prop := match st with
  | .inl b :: .inl a :: st => f a b st
  | _ => False
def j1 (st : List PV) (f : Int → List PV → Prop) : Prop := match st with
  | .inr (.inl a) :: st => f a st
  | _ => False
def j2 (st : List PV) (f : Int → Int → List PV → Prop) : Prop := match st with
  | .inr (.inl b) :: .inr (.inl a) :: st => f a b st
  | _ => False
def ji (st : List PV) (f : Int → Int → List PV → Prop) : Prop := match st with
  | .inl b :: .inr (.inl a) :: st => f a b st
  | _ => False
def r1 (st : List PV) (f : Nat → List PV → Prop) : Prop := match st with
  | .inr (.inr (.inl p)) :: st => f p st
  | _ => False
def a1 (st : List PV) (f : PV → List PV → Prop) : Prop := match st with
  | .inr (.inr v) :: st => f (.inr (.inr v)) st
  | _ => False
def cnd (c : Jvm.ClassFile.Cond) (a b : Int) : Prop := match c with
  | .eq => a = b
  | .ne => ¬ a = b
  | .lt => a < b
  | .ge => b ≤ a
  | .gt => b < a
  | .le => a ≤ b
/-- an array's length, of kind t -/
def alen (w : WD) (p t : Nat) (f : Nat → Prop) : Prop := match w.1[p]? with
  | some (.inr (u, n)) => u = t ∧ f n
  | _ => False
def jmp (pc : Nat) (off : Int) (f : Nat → Prop) : Prop := 0 ≤ (pc : Int) + off ∧ f ((pc : Int) + off).toNat
def brn (pc : Nat) (off : Int) (c : Prop) (f : Nat → Prop) (g : Prop) : Prop := 0 ≤ (pc : Int) + off ∧ (c → f ((pc : Int) + off).toNat) ∧ (¬ c → g)
def psh (μ : Nat) (r : PV) (st : List PV) : List PV := if mK μ = 4 then st else r :: st
def gdC (μ ν : Nat) (inst : Bool) (st rest : List PV) (k : Nat × Nat) : Bool := Nat.ble (mA ν) st.length && (mS ν == !inst) && cat8 rest && Nat.ble (k.1 + mcO ν) (mcO μ) && Nat.ble (k.2 + msO ν) (msO μ)
def ivR (μ ν pc : Nat) (L : LSt) (st : List PV) (k : Nat × Nat) (w : WD) (h : HP) (nx : NX) (cl : CLT) : Prop :=
  r1 (st.drop (mA ν)) (fun p rest => w.1[p]? = some (.inl (moN ν)) ∧ gdC μ ν true st rest k = true ∧ cl ν (.inr (.inr (.inl p)) :: (st.take (mA ν)).reverse) w h (fun r w' h' => nx (pc + 3) L (psh ν r rest) (k.1 + mcO ν, k.2 + msO ν) w' h'))
def ivS (μ ν pc : Nat) (L : LSt) (st : List PV) (k : Nat × Nat) (w : WD) (h : HP) (nx : NX) (cl : CLT) : Prop :=
  gdC μ ν false st (st.drop (mA ν)) k = true ∧ cl ν ((st.take (mA ν)).reverse) w h (fun r w' h' => nx (pc + 3) L (psh ν r (st.drop (mA ν))) (k.1 + mcO ν, k.2 + msO ν) w' h')
def acp (pc : Nat) (L : LSt) (st : List PV) (k : Nat × Nat) (w : WD) (h : HP) (nx : NX) : Prop := match st with
  | .inl n :: .inl dp :: .inr (.inr (.inl q)) :: .inl sp :: .inr (.inr (.inl p)) :: rest =>
    alen w p 0 (fun n0 => alen w q 0 (fun n1 => (0 ≤ sp ∧ 0 ≤ dp ∧ 0 ≤ n ∧ sp + n ≤ n0 ∧ dp + n ≤ n1) ∧ cat8 rest = true ∧ nx (pc + 3) L rest k w (cpy h p q sp.toNat dp.toNat n.toNat)))
  | _ => False
def gtF (μ j pc : Nat) (L : LSt) (st : List PV) (k : Nat × Nat) (w : WD) (h : HP) (nx : NX) : Prop := match fldR (moN μ) j with
  | none => False
  | some (ci, kk) => r1 st (fun p st => w.1[p]? = some (.inl ci) ∧ match fcl ci kk with
    | 0 => nx (pc + 3) L (.inl (h p kk) :: st) k w h
    | 3 => nx (pc + 3) L (.inl (h p kk) :: st) k w h
    | 1 => nx (pc + 3) L (.inr (.inl (h p kk)) :: st) k w h
    | 2 => match w.2 p kk with
      | 0 => False
      | q + 1 => nx (pc + 3) L (.inr (.inr (.inl q)) :: st) k w h
    | _ => False)
def gdP (μ ci kk : Nat) : Bool := !(ffin ci kk) || ((mY μ).name == "<init>" && moN μ == ci)
def ptF (μ j pc : Nat) (L : LSt) (st : List PV) (k : Nat × Nat) (w : WD) (h : HP) (nx : NX) : Prop := match fldR (moN μ) j with
  | none => False
  | some (ci, kk) => gdP μ ci kk = true ∧ match fcl ci kk with
    | 0 => i1 st (fun v st => r1 st (fun p st => w.1[p]? = some (.inl ci) ∧ nx (pc + 3) L st k w (up2 h p kk v)))
    | 3 => i1 st (fun v st => r1 st (fun p st => w.1[p]? = some (.inl ci) ∧ (v = 0 ∨ v = 1) ∧ nx (pc + 3) L st k w (up2 h p kk v)))
    | 1 => j1 st (fun v st => r1 st (fun p st => w.1[p]? = some (.inl ci) ∧ nx (pc + 3) L st k w (up2 h p kk v)))
    | 2 => r1 st (fun q st => r1 st (fun p st => w.1[p]? = some (.inl ci) ∧ nx (pc + 3) L st k (w.1, ug2 w.2 p kk (q + 1)) h))
    | _ => False
/-- reading an int array, or the script -/
def ald (S : SC) (pc : Nat) (L : LSt) (st : List PV) (k : Nat × Nat) (w : WD) (h : HP) (nx : NX) : Prop := i1 st (fun i st => match st with
  | .inr (.inr (.inl p)) :: st => alen w p 0 (fun n => (0 ≤ i ∧ i < n) ∧ nx (pc + 1) L (.inl (h p i.toNat) :: st) k w h)
  | .inr (.inr (.inr _)) :: st => (match S.1 with
    | 0 => False
    | n + 1 => (0 ≤ i ∧ i < n) ∧ nx (pc + 1) L (.inl (S.2 i.toNat) :: st) k w h)
  | _ => False)
def aln (S : SC) (pc : Nat) (L : LSt) (st : List PV) (k : Nat × Nat) (w : WD) (h : HP) (nx : NX) : Prop := match st with
  | .inr (.inr (.inl p)) :: st => (match w.1[p]? with
    | some (.inr (u, n)) => (u ≤ 2 ∧ n < 2147483648) ∧ nx (pc + 1) L (.inl n :: st) k w h
    | _ => False)
  | .inr (.inr (.inr _)) :: st => (match S.1 with
    | 0 => False
    | n + 1 => n < 2147483648 ∧ nx (pc + 1) L (.inl n :: st) k w h)
  | _ => False
def mkA (μ t pc : Nat) (L : LSt) (st : List PV) (k : Nat × Nat) (w : WD) (h : HP) (nx : NX) : Prop := i1 st (fun n st => (0 ≤ n ∧ n ≤ 60000000) ∧ (Nat.ble (k.1 + 1) (mcO μ) && Nat.ble (k.2 + n.toNat) (msO μ)) = true ∧
  nx (pc + 2) L (.inr (.inr (.inl w.1.length)) :: st) (k.1 + 1, k.2 + n.toNat) (w.1 ++ [.inr (t, n.toNat)], clg w.2 w.1.length) (clr h w.1.length))
def mkO (μ j pc : Nat) (L : LSt) (st : List PV) (k : Nat × Nat) (w : WD) (h : HP) (nx : NX) : Prop := match newR (moN μ) j with
  | none => False
  | some ci => (Nat.ble (k.1 + 1) (mcO μ) && Nat.ble (k.2 + (clT ci).2.2) (msO μ)) = true ∧
  nx (pc + 3) L (.inr (.inr (.inl w.1.length)) :: st) (k.1 + 1, k.2 + (clT ci).2.2) (w.1 ++ [.inl ci], clg w.2 w.1.length) (clr h w.1.length)
def stp (S : SC) (μ pc : Nat) (i : Jvm.ClassFile.Instr) (L : LSt) (st : List PV) (k : Nat × Nat) (w : WD) (h : HP) (Q : KK) (nx : NX) (cl : CLT) : Prop :=
  match i with
  | .iconst n => w32 n = n ∧ nx (pc + 1) L (.inl n :: st) k w h
  | .bipush n => (-128 ≤ n ∧ n ≤ 127) ∧ nx (pc + 2) L (.inl n :: st) k w h
  | .sipush n => (-32768 ≤ n ∧ n ≤ 32767) ∧ nx (pc + 3) L (.inl n :: st) k w h
  | .lconst n => nx (pc + 1) L (.inr (.inl ((n : Nat) : Int)) :: st) k w h
  | .ldc j => (match cstR (moN μ) j with
    | some v => w32 v = v ∧ nx (pc + 2) L (.inl v :: st) k w h
    | none => False)
  | .ldc_w j => (match cstR (moN μ) j with
    | some v => w32 v = v ∧ nx (pc + 3) L (.inl v :: st) k w h
    | none => False)
  | .ldc2_w j => (match lcsR (moN μ) j with
    | some v => w64 v = v ∧ nx (pc + 3) L (.inr (.inl v) :: st) k w h
    | none => False)
  | .iload j => ldI L j (fun a => nx (pc + 2) L (.inl a :: st) k w h)
  | .iload_n j => ldI L (j : Nat) (fun a => nx (pc + 1) L (.inl a :: st) k w h)
  | .lload_n j => ldJ L (j : Nat) (fun a => nx (pc + 1) L (.inr (.inl a) :: st) k w h)
  | .aload_n j => ldA L (j : Nat) (fun v => nx (pc + 1) L (v :: st) k w h)
  | .aload j => ldA L j (fun v => nx (pc + 2) L (v :: st) k w h)
  | .istore j => i1 st (fun a st => stV L j (.inl a) (fun L => nx (pc + 2) L st k w h))
  | .istore_n j => i1 st (fun a st => stV L (j : Nat) (.inl a) (fun L => nx (pc + 1) L st k w h))
  | .astore_n j => a1 st (fun v st => stV L (j : Nat) v (fun L => nx (pc + 1) L st k w h))
  | .iinc j n => ldI L j (fun a => w32 n = n ∧ stV L j (.inl (w32 (a + n))) (fun L => nx (pc + 3) L st k w h))
  | .iadd => i2 st (fun a b st => nx (pc + 1) L (.inl (w32 (a + b)) :: st) k w h)
  | .isub => i2 st (fun a b st => nx (pc + 1) L (.inl (w32 (a - b)) :: st) k w h)
  | .imul => i2 st (fun a b st => nx (pc + 1) L (.inl (w32 (a * b)) :: st) k w h)
  | .idiv => i2 st (fun a b st => ¬ b = 0 ∧ nx (pc + 1) L (.inl (w32 (Int.tdiv a b)) :: st) k w h)
  | .irem => i2 st (fun a b st => ¬ b = 0 ∧ nx (pc + 1) L (.inl (Int.tmod a b) :: st) k w h)
  | .ineg => i1 st (fun a st => nx (pc + 1) L (.inl (w32 (-a)) :: st) k w h)
  | .iand => i2 st (fun a b st => nx (pc + 1) L (.inl (bAnd a b) :: st) k w h)
  | .ior => i2 st (fun a b st => nx (pc + 1) L (.inl (bOr a b) :: st) k w h)
  | .ixor => i2 st (fun a b st => nx (pc + 1) L (.inl (bXor a b) :: st) k w h)
  | .ishl => i2 st (fun a b st => nx (pc + 1) L (.inl (bShl a b) :: st) k w h)
  | .ishr => i2 st (fun a b st => nx (pc + 1) L (.inl (bShr a b) :: st) k w h)
  | .iushr => i2 st (fun a b st => nx (pc + 1) L (.inl (bUsh a b) :: st) k w h)
  | .ladd => j2 st (fun a b st => nx (pc + 1) L (.inr (.inl (w64 (a + b))) :: st) k w h)
  | .land => j2 st (fun a b st => nx (pc + 1) L (.inr (.inl (lAnd a b)) :: st) k w h)
  | .lor => j2 st (fun a b st => nx (pc + 1) L (.inr (.inl (lOr a b)) :: st) k w h)
  | .lshl => ji st (fun a b st => nx (pc + 1) L (.inr (.inl (lShl a b)) :: st) k w h)
  | .lshr => ji st (fun a b st => nx (pc + 1) L (.inr (.inl (lShr a b)) :: st) k w h)
  | .lushr => ji st (fun a b st => nx (pc + 1) L (.inr (.inl (lUsh a b)) :: st) k w h)
  | .lcmp => j2 st (fun a b st => nx (pc + 1) L (.inl (if b < a then 1 else if a = b then 0 else -1) :: st) k w h)
  | .i2l => i1 st (fun a st => nx (pc + 1) L (.inr (.inl a) :: st) k w h)
  | .l2i => j1 st (fun a st => nx (pc + 1) L (.inl (w32 a) :: st) k w h)
  | .dup => (match st with
    | v :: st => pcat v = 1 ∧ nx (pc + 1) L (v :: v :: st) k w h
    | _ => False)
  | .pop => (match st with
    | v :: st => pcat v = 1 ∧ nx (pc + 1) L st k w h
    | _ => False)
  | .dup2 => (match st with
    | v :: u :: st => (pcat v = 1 ∧ pcat u = 1) ∧ nx (pc + 1) L (v :: u :: v :: u :: st) k w h
    | _ => False)
  | .ifCond c off => i1 st (fun a st => brn pc off (cnd c a 0) (fun t => nx t L st k w h) (nx (pc + 3) L st k w h))
  | .if_icmp c off => i2 st (fun a b st => brn pc off (cnd c a b) (fun t => nx t L st k w h) (nx (pc + 3) L st k w h))
  | .goto off => jmp pc off (fun t => nx t L st k w h)
  | .tableswitch d lo hi offs => i1 st (fun x st => ((x < lo ∨ hi < x) → jmp pc d (fun t => nx t L st k w h)) ∧ (¬ (x < lo ∨ hi < x) → ∃ off, offs[(x - lo).toNat]? = some off ∧ jmp pc off (fun t => nx t L st k w h)))
  | .getfield j => gtF μ j pc L st k w h nx
  | .putfield j => ptF μ j pc L st k w h nx
  | .iaload => ald S pc L st k w h nx
  | .baload => i1 st (fun i st => r1 st (fun p st => alen w p 1 (fun n => (0 ≤ i ∧ i < n) ∧ nx (pc + 1) L (.inl (h p i.toNat) :: st) k w h)))
  | .laload => i1 st (fun i st => r1 st (fun p st => alen w p 2 (fun n => (0 ≤ i ∧ i < n) ∧ nx (pc + 1) L (.inr (.inl (h p i.toNat)) :: st) k w h)))
  | .iastore => i2 st (fun i v st => r1 st (fun p st => alen w p 0 (fun n => (0 ≤ i ∧ i < n) ∧ nx (pc + 1) L st k w (up2 h p i.toNat v))))
  | .bastore => i2 st (fun i v st => r1 st (fun p st => alen w p 1 (fun n => (0 ≤ i ∧ i < n) ∧ (v = 0 ∨ v = 1) ∧ nx (pc + 1) L st k w (up2 h p i.toNat v))))
  | .lastore => j1 st (fun v st => i1 st (fun i st => r1 st (fun p st => alen w p 2 (fun n => (0 ≤ i ∧ i < n) ∧ nx (pc + 1) L st k w (up2 h p i.toNat v)))))
  | .arraylength => aln S pc L st k w h nx
  | .newarray .int => mkA μ 0 pc L st k w h nx
  | .newarray .boolean => mkA μ 1 pc L st k w h nx
  | .newarray .long => mkA μ 2 pc L st k w h nx
  | .new j => mkO μ j pc L st k w h nx
  | .invokevirtual j => (match mthR (moN μ) j with
    | ν + 3 => (mY ν).name ≠ "<init>" ∧ ivR μ ν pc L st k w h nx cl
    | _ => False)
  | .invokespecial j => (match mthR (moN μ) j with
    | ν + 3 => (mY ν).name = "<init>" ∧ ivR μ ν pc L st k w h nx cl
    | 1 => r1 st (fun _ st => cat8 st = true ∧ nx (pc + 3) L st k w h)
    | _ => False)
  | .invokestatic j => (match mthR (moN μ) j with
    | ν + 3 => ivS μ ν pc L st k w h nx cl
    | 2 => acp pc L st k w h nx
    | _ => False)
  | .ireturn => (match st with
    | [.inl a] => (mK μ = 0 ∨ (mK μ = 3 ∧ (a = 0 ∨ a = 1))) ∧ Q (.inl a) w h
    | _ => False)
  | .lreturn => (match st with
    | [.inr (.inl a)] => mK μ = 1 ∧ Q (.inr (.inl a)) w h
    | _ => False)
  | .return_ => (match st with
    | [] => mK μ = 4 ∧ Q (.inl 0) w h
    | _ => False)
  | _ => False
def iniS (as : List PV) : LSt := as.flatMap (fun v => match v with
  | .inr (.inl _) => [some v, none]
  | _ => [some v])
def iniL (n : Nat) (as : List PV) : LSt := iniS as ++ List.replicate (n - (iniS as).length) none
def iniOk (n : Nat) (as : List PV) : Bool := Nat.ble (iniS as).length n
abbrev CF : Type := SC → Nat → Nat → Nat → LSt → List PV → Nat × Nat → WD → HP → KK → Prop
def S0 : SC := (0, fun _ => 0)
def clF (F : CF) (d : Nat) : CLT := fun ν as w h K => match d with
  | 0 => False
  | d + 1 => iniOk (mL ν) as = true ∧ F S0 d ν 0 (iniL (mL ν) as) [] (0, 0) w h K
def STF (F : CF) : CF := fun S d μ pc L st k w h Q => match cdA μ pc with
  | none => False
  | some i => stp S μ pc i L st k w h Q (fun pc L st k w h => F S d μ pc L st k w h Q) (clF F d)
def QM (F : CF) : Prop := ∀ S d μ pc L st k w h (Q Q' : KK), (∀ r w h, Q r w h → Q' r w h) → F S d μ pc L st k w h Q → F S d μ pc L st k w h Q'
def PFX (F : CF) : Prop := ∀ S d μ pc L st k w h Q, STF F S d μ pc L st k w h Q → F S d μ pc L st k w h Q
def WP : CF := fun S d μ pc L st k w h Q => ∀ F : CF, QM F → PFX F → F S d μ pc L st k w h Q
