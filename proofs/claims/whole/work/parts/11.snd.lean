/-! soundness: what it says, and a method's contract out of it -/
theorem fldR_ok {o i ci kk : Nat} (h : fldR o i = some (ci, kk)) : Cond.fieldLink (cnm.getD o "") i ((clT ci).2.1 kk).1 ((clT ci).2.1 kk).2.1 ((clT ci).2.1 kk).2.2.1 ∈ ALLW ∧ kk < (clT ci).2.2 ∧ ci < 13 := by
  unfold fldR at h
  obtain ⟨q, hq, e⟩ := Option.map_eq_some_iff.mp h
  have hm := List.mem_of_find?_eq_some hq
  have hp := List.find?_some hq
  simp only [Bool.and_eq_true, beq_iff_eq] at hp
  obtain ⟨o', i', ci', kk', pl⟩ := q
  cases e
  obtain ⟨h1, h2, h3⟩ := fld_ok _ hm
  obtain ⟨rfl, rfl⟩ := hp
  exact ⟨allw_of h1 rfl, h2, h3⟩
theorem nest_3 : ∀ q ∈ mthW, q.2.2.2.2 ≠ 0 → 3 ≤ q.2.2.1 := by decide +kernel
theorem mthR_ok {o i z : Nat} (h : mthR o i = z) (hz : z ≠ 0) : (Cond.methodLink (cnm.getD o "") i (mthY z) ∈ ALLW ∨ (Cond.methodLinkNest (cnm.getD o "") i (mthY z) "WarmSide" ∈ nestW ∧ 3 ≤ z)) ∧ z < 230 := by
  unfold mthR at h
  split at h
  · rename_i q hq
    have hm := List.mem_of_find?_eq_some hq
    have hp := List.find?_some hq
    simp only [Bool.and_eq_true, beq_iff_eq] at hp
    obtain ⟨o', i', z', pl, ne⟩ := q
    obtain ⟨h1, h2⟩ := mth_ok _ hm
    obtain ⟨rfl, rfl⟩ := hp
    cases h
    refine ⟨?_, h2⟩
    by_cases hn : ne = 0
    · subst hn
      exact Or.inl (allw_of h1 rfl)
    · refine Or.inr ⟨?_, nest_3 _ hm hn⟩
      unfold nestW
      refine List.mem_map.mpr ⟨_, List.mem_filter.mpr ⟨hm, ?_⟩, ?_⟩
      · simp only [Bool.not_eq_true']
        exact Bool.eq_false_iff.mpr (fun q => hn (Nat.eq_of_beq_eq_true q))
      · unfold mthC; rw [if_neg hn]
  · exact absurd h.symm hz
theorem cstR_ok {o i : Nat} {v : Int} (h : cstR o i = some v) : Cond.constant (cnm.getD o "") i (Int32.ofInt v) ∈ ALLW := by
  unfold cstR at h
  obtain ⟨q, hq, e⟩ := Option.map_eq_some_iff.mp h
  have hm := List.mem_of_find?_eq_some hq
  have hp := List.find?_some hq
  simp only [Bool.and_eq_true, beq_iff_eq] at hp
  obtain ⟨o', i', v', pl⟩ := q
  cases e
  have h1 := cst_ok _ hm
  obtain ⟨rfl, rfl⟩ := hp
  exact allw_of h1 rfl
theorem lcsR_ok {o i : Nat} {v : Int} (h : lcsR o i = some v) : Cond.constantLong (cnm.getD o "") i (Int64.ofInt v) ∈ ALLW := by
  unfold lcsR at h
  obtain ⟨q, hq, e⟩ := Option.map_eq_some_iff.mp h
  have hm := List.mem_of_find?_eq_some hq
  have hp := List.find?_some hq
  simp only [Bool.and_eq_true, beq_iff_eq] at hp
  obtain ⟨o', i', v', pl⟩ := q
  cases e
  have h1 := lcs_ok _ hm
  obtain ⟨rfl, rfl⟩ := hp
  exact allw_of h1 rfl
theorem newR_ok {o i ci : Nat} (h : newR o i = some ci) : Cond.classLink (cnm.getD o "") i (clT ci).1 ∈ ALLW ∧ ci < 13 := by
  unfold newR at h
  obtain ⟨q, hq, e⟩ := Option.map_eq_some_iff.mp h
  have hm := List.mem_of_find?_eq_some hq
  have hp := List.find?_some hq
  simp only [Bool.and_eq_true, beq_iff_eq] at hp
  obtain ⟨o', i', v', pl⟩ := q
  cases e
  obtain ⟨h1, h2⟩ := new_ok _ hm
  obtain ⟨rfl, rfl⟩ := hp
  exact ⟨allw_of h1 rfl, h2⟩
theorem lay_in {ci : Nat} (hc : ci < 13) : ∀ w ∈ u_ws (clT ci).1 (clT ci).2.1 (clT ci).2.2, w ∈ ALLW := by
  intro w hw
  unfold u_ws at hw
  obtain ⟨k, hk, rfl⟩ := List.mem_map.mp hw
  have h1 := lay_all ci hc k (List.mem_range.mp hk)
  obtain ⟨q, hq⟩ := Option.isSome_iff_exists.mp h1
  have hm := List.mem_of_find?_eq_some hq
  have hp := List.find?_some hq
  simp only [Bool.and_eq_true] at hp
  obtain ⟨c', k', pl⟩ := q
  have h2 := lay_ok _ hm
  have e1 : c' = ci := Nat.eq_of_beq_eq_true hp.1
  have e2 : k' = k := Nat.eq_of_beq_eq_true hp.2
  subst e1; subst e2
  refine allw_of h2 ?_
  unfold u_lay
  split <;> rfl
theorem mK_0 {ν : Nat} (h : mK ν = 0) : mR ν = some .int := by
  unfold mK at h
  split at h
  · cases h
  · rename_i t e
    cases t <;> simp [fty] at h
    exact e
theorem mK_3 {ν : Nat} (h : mK ν = 3) : mR ν = some .boolean := by
  unfold mK at h
  split at h
  · cases h
  · rename_i t e
    cases t <;> simp [fty] at h
    exact e
theorem mK_1 {ν : Nat} (h : mK ν = 1) : mR ν = some .long := by
  unfold mK at h
  split at h
  · cases h
  · rename_i t e
    cases t <;> simp [fty] at h
    exact e
theorem mK_4 {ν : Nat} (h : mK ν = 4) : mR ν = none := by
  unfold mK at h
  split at h
  · rename_i e
    exact e
  · rename_i t e
    cases t <;> simp [fty] at h
theorem nar_z {y : Int32} (h : y = 0 ∨ y = 1) : narrow .boolean (.int y) = .int y := by
  rcases h with rfl | rfl <;> rfl
theorem fits_z {y : Int32} (h : y = 0 ∨ y = 1) : fits .boolean (.int y) = true := by
  rcases h with rfl | rfl <;> rfl
theorem vnar_z {y : Int32} (h : y = 0 ∨ y = 1) : vp_nar .boolean y = y := by
  rcases h with rfl | rfl <;> rfl
theorem z_of {y : Int32} (h : y.toInt = 0 ∨ y.toInt = 1) : y = 0 ∨ y = 1 := h.imp (fun q => n_eq.mpr q) (fun q => n_eq.mpr q)
theorem pg_call {p : Program} {l : Launch} {e : Env} {R : Room} {s : State} {m : MethodId} {args : Array Value} {below : List Frame} {meth : Method} {c : Code} {H : Heap} {locs : List Loc} {cells slots : Nat} {Q : State → Prop} {pc : Nat} {ls : Array Slot} {rest st0 : List Value} {A0 A1 : Nat → Prop} {H0 : Heap} {mc ms : Nat} {free : Addr → Prop} {Qa : State → Outcome → State → Prop}
    (hr : va_Run p l e R s m args below meth c H locs cells slots mc ms (F0 m pc ls st0) rest Qa free) (hS : va_S A0 H0 H locs) (hA : ∀ q, q < H.size → A1 q → A0 q) (hf : ∀ q, free q → A0 q) (hQ : ∀ st v t, Qa st (.returned v) t → va_F A1 st t)
    (kk : ∀ (v : Option Value) (st t : State) (H1 : Heap) (locs1 : List Loc), t.heap = H1 → Qa st (.returned v) t → va_S A0 H0 H1 locs1 → W p l e R s m args below meth c H1 locs1 (cells + mc) (slots + ms) Q (F0 m (pc + 3) ls (v.toList ++ rest))) : W p l e R s m args below meth c H locs cells slots Q (F0 m pc ls st0) := by
  intro T hT X
  obtain ⟨v, st₀, t, T', L, h0, X', hL, e1, e2, hq, st⟩ := hr T hT X
  obtain ⟨hz, hk⟩ := hQ _ _ _ hq
  rw [h0] at hz hk
  obtain ⟨t2, x1, y1⟩ := kk v st₀ t T'.heap (locs ++ L) e1.symm hq
    ⟨Nat.le_trans hS.1 (by rw [e1]; exact hz), fun q h1 h2 => by rw [e1, hk q (Nat.lt_of_lt_of_le h1 hS.1) (fun z => h2 (hA q (Nat.lt_of_lt_of_le h1 hS.1) z))]; exact hS.2.1 q h1 h2, fun q hq => by
      rcases List.mem_append.mp hq with h | h
      · exact hS.2.2 q h
      · exact hf _ (hL q h)⟩ T' rfl X'
  exact ⟨t2, st t2 x1, y1⟩
theorem metWF {l : Launch} {y : MethodName} {ws ws' : List Cond} {rm : Room} {Pc : Array Value → State → Prop} {Qc : Array Value → State → Outcome → State → Prop} {mc ms : Nat} {free : Addr → Prop} {cc : ByteArray} {maxL : Nat} {ret : Option FieldType}
    (hy : plainFor y = true) (hw : ws = Cond.code y cc maxL ret :: ws')
    (body : ∀ p e s m args below meth c s₁, BodyLoose p l y (headSpec ws rm) cc maxL ret e s m args below meth c s₁ → c.maxLocals = maxL → Pc args s →
      W p l e (headSpec ws rm).room s m args below meth c s.heap [] 0 0 (MQ below Qc args s mc ms free) (entryFrame m args maxL)) : Met l y ws rm Pc Qc mc ms free := by
  refine MetFree.of_bodySF (code := cc) (maxLocals := maxL) (ret := ret) hy ?_ ?_
  · intro args s m h hn
    obtain ⟨meth, c, h1, h2, h3, h4, h5, h6, -, -⟩ := Cond.code_spec hn (atoms_spec (ws := ws) h _ (by rw [hw]; exact List.mem_cons_self))
    exact ⟨meth, c, h1, h2, h3, h4, h5, h6⟩
  · intro p e s m args below meth c s₁ B hml hP _
    have hh0 : s₁.heap = s.heap := by rw [B.state]; rfl
    obtain ⟨t, x1, o, y1, y2, y3⟩ := body p e s m args below meth c s₁ B hml hP s₁ hh0 (Stand.of_body B)
    exact ⟨t, o, x1, y1, y2, ⟨y3.1, y3.2⟩⟩
def rmO (d ν : Nat) : Room := { frames := d + 1, cells := mcO ν, slots := msO ν, locals := 64 * (d + 1) }
abbrev tyL (cI cZ cL : ClassId) : List (ClassId × FieldType) := [(cI, .int), (cZ, .boolean), (cL, .long)]
def frm (p : Program) (R : Room) (s : State) (m : MethodId) (args : Array Value) (meth : Method) (c : Code) (d μ : Nat) (dC : Nat → ClassId) (dI : Nat → Nat → Nat) (cI cZ cL : ClassId) (A : Nat → Prop) : Prop :=
  (p.tables.exec = Jvm.exec ∧ c.code = mC μ ∧ c.maxLocals = mL μ ∧ s.vm.findClass (cnm.getD (moN μ) "") = some m.cls ∧ (∀ w ∈ ALLW, w.before args s = true)) ∧ (∀ w ∈ nestW, va_Nw w s) ∧ va_K (dC, dI) vwCl (tyL cI cZ cL) s ∧ (∀ q, s.heap.size ≤ q → A q) ∧ ((mY μ).name = "<init>" → meth.name = "<init>") ∧ μ < 228 ∧ d + 1 ≤ R.frames ∧ 64 * (d + 1) ≤ R.locals ∧ mcO μ ≤ R.cells ∧ msO μ ≤ R.slots
def scr (S : SC) (b : Nat) (s : State) (A : Nat → Prop) : Prop := S.1 = 0 ∨ ∃ (n : Nat) (xs : Nat → Int32), S.1 = n + 1 ∧ va_X b n xs s s.heap ∧ b < s.heap.size ∧ ¬ A b ∧ ∀ j, (xs j).toInt = S.2 j
def rtn (μ pc : Nat) (r : PV) (vs : List Value) : Prop :=
  (∃ y : Int32, r = .inl y.toInt ∧ vs = [.int y] ∧ decode (mC μ) pc = .ok (.ireturn, 1) ∧ (mK μ = 0 ∨ (mK μ = 3 ∧ (y = 0 ∨ y = 1)))) ∨ (∃ y : Int64, r = .inr (.inl y.toInt) ∧ vs = [.long y] ∧ decode (mC μ) pc = .ok (.lreturn, 1) ∧ mK μ = 1) ∨ (r = .inl 0 ∧ vs = [] ∧ decode (mC μ) pc = .ok (.return_, 1) ∧ mK μ = 4)
def SND (l : Launch) : CF := fun S d μ pc L st k w h Q =>
  ∀ (p : Program) (e : Env) (R : Room) (s : State) (m : MethodId) (args : Array Value) (below : List Frame) (meth : Method) (c : Code) (dC : Nat → ClassId) (dI : Nat → Nat → Nat) (cI cZ cL : ClassId) (A : Nat → Prop) (b : Nat) (Qm : State → Prop) (H : Heap) (locs : List Loc) (ls : Array Slot) (vs : List Value) (ads : List Nat) (ws : va_W),
  frm p R s m args meth c d μ dC dI cI cZ cL A → scr S b s A → va_P (dC, dI) vwCl ws H → va_D A ws → va_S A s.heap H locs → wr cI cZ cL ads w h ws → sv b ads st vs → lr b ads L ls → L.length = mL μ → (k.1 ≤ mcO μ ∧ k.2 ≤ msO μ) →
  (∀ (pc' : Nat) (ls' : Array Slot) (r : PV) (vs' : List Value) (w' : WD) (h' : HP) (H' : Heap) (locs' : List Loc) (k' : Nat × Nat) (t' : List Nat) (ws' : va_W), Q r w' h' → rtn μ pc' r vs' → va_P (dC, dI) vwCl ws' H' → va_D A ws' → va_S A s.heap H' locs' → wr cI cZ cL (ads ++ t') w' h' ws' → k'.1 ≤ mcO μ → k'.2 ≤ msO μ → W p l e R s m args below meth c H' locs' k'.1 k'.2 Qm (F0 m pc' ls' vs')) →
  W p l e R s m args below meth c H locs k.1 k.2 Qm (F0 m pc ls vs)
theorem SND_qm (l : Launch) : QM (SND l) := by
  intro S d μ pc L st k w h Q Q' hQ H p e R s m args below meth c dC dI cI cZ cL A b Qm Hp locs ls vs ads ws g1 g2 g3 g4 g5 g6 g7 g8 g9 g10 hend
  exact H p e R s m args below meth c dC dI cI cZ cL A b Qm Hp locs ls vs ads ws g1 g2 g3 g4 g5 g6 g7 g8 g9 g10 (fun pc' ls' r vs' w' h' H' locs' k' t' ws' hq => hend pc' ls' r vs' w' h' H' locs' k' t' ws' (hQ _ _ _ hq))
def PcO (dC : Nat → ClassId) (dI : Nat → Nat → Nat) (cI cZ cL : ClassId) (vals : List Value) (sz : Nat) (ws : va_W) : Array Value → State → Prop := va_Pc vals (fun U => U.heap.size = sz ∧ va_P (dC, dI) vwCl ws U.heap ∧ va_D (fun _ => True) ws ∧ va_K (dC, dI) vwCl (tyL cI cZ cL) U ∧ ∀ w ∈ nestW, va_Nw w U)
def rvO (ν : Nat) (r : PV) (ov : Option Value) : Prop := (∃ y : Int32, r = .inl y.toInt ∧ ov = some (.int y) ∧ mK ν ≠ 4) ∨ (∃ y : Int64, r = .inr (.inl y.toInt) ∧ ov = some (.long y) ∧ mK ν ≠ 4) ∨ (r = .inl 0 ∧ ov = none ∧ mK ν = 4)
def QcO (dC : Nat → ClassId) (dI : Nat → Nat → Nat) (cI cZ cL : ClassId) (ν : Nat) (K : KK) (ads : List Nat) (A : Nat → Prop) : Array Value → State → Outcome → State → Prop := fun _ st oc t => (∃ (ov : Option Value) (r : PV) (w' : WD) (h' : HP) (ws' : va_W) (t' : List Nat), oc = .returned ov ∧ rvO ν r ov ∧ K r w' h' ∧ va_P (dC, dI) vwCl ws' t.heap ∧ va_D A ws' ∧ wr cI cZ cL (ads ++ t') w' h' ws') ∧ va_F A st t
theorem nest_tab : ∀ w ∈ nestW, w.onTables = true := by
  intro w hw
  unfold nestW at hw
  obtain ⟨q, hq, rfl⟩ := List.mem_map.mp hw
  unfold mthC
  split <;> rfl
theorem nest_is : ∀ w ∈ nestW, ∃ own i y, w = Cond.methodLinkNest own i y "WarmSide" := by
  intro w hw
  unfold nestW at hw
  obtain ⟨q, hq, rfl⟩ := List.mem_map.mp hw
  have h1 := (List.mem_filter.mp hq).2
  unfold mthC
  rw [if_neg]
  · exact ⟨_, _, _, rfl⟩
  · intro h
    rw [h] at h1
    cases h1
theorem met_of {l : Launch} {d ν : Nat} {as : List PV} {w : WD} {h : HP} {K : KK} (hS : SND l S0 d ν 0 (iniL (mL ν) as) [] (0, 0) w h K) (hν : ν < 227) (hio : iniOk (mL ν) as = true) (dC : Nat → ClassId) (dI : Nat → Nat → Nat) {cI cZ cL : ClassId} {b : Nat} {ads : List Nat} {ws : va_W} {vals : List Value} (sz : Nat) (hv : sv b ads as vals) (hwr : wr cI cZ cL ads w h ws) :
    Met l (mY ν) (Cond.code (mY ν) (mC ν) (mL ν) (mR ν) :: ALLW) (rmO d ν) (PcO dC dI cI cZ cL vals sz ws) (QcO dC dI cI cZ cL ν K ads (va_A ws sz)) (mcO ν) (msO ν) (va_A ws sz) := by
  refine metWF (cc := mC ν) (maxL := mL ν) (ret := mR ν) (met_ok ν hν).1.1 rfl ?_
  intro p e s m args below meth c s₁ B hml hv0
  obtain ⟨rfl, hsz, hP, hD0, hK, hN⟩ := hv0
  subst hsz
  have hts := atoms_spec (ws := Cond.code (mY ν) (mC ν) (mL ν) (mR ν) :: ALLW) B.pre
  have hown : s.vm.findClass (mY ν).cls = some m.cls := findClass_of_methodNamed B.named
  have hin : meth.name = (mY ν).name := (name_of_methodNamed B.named B.method).1
  rw [lg_entry_eq]
  obtain ⟨h1, h2⟩ := ini_lr hv hio
  refine hS p e _ s m _ below meth c dC dI cI cZ cL (va_A ws s.heap.size) b _ s.heap [] _ [] ads ws ⟨⟨B.exec, B.bytes, hml, by rw [(met_ok ν hν).1.2.1]; exact hown, fun w hw => hts w (List.mem_cons_of_mem _ hw)⟩, hN, hK, fun q h => Or.inr h, fun q => hin.trans q, by omega, Nat.le_refl _, Nat.le_refl _, Nat.le_refl _, Nat.le_refl _⟩ (Or.inl rfl) hP hD0.self va_S.rf hwr trivial h1 h2 ⟨Nat.zero_le _, Nat.zero_le _⟩ ?_
  intro pc' ls' r vs' w' h' H' locs' k' t' ws' hQ hr hP' hD' hS' hwr' hk1 hk2
  refine W.widen hk1 hk2 ?_
  have hq : ∀ ov, rvO ν r ov → ∀ t : State, t.heap = H' → s.WarmedH t.vm → QcO dC dI cI cZ cL ν K ads (va_A ws s.heap.size) vals.toArray s (.returned ov) t := fun ov hov t ht _ => ⟨⟨ov, r, w', h', ws', t', rfl, hov, hQ, by rw [ht]; exact hP', hD', hwr'⟩, hS'.F ht⟩
  rcases hr with ⟨y, rfl, rfl, hd, hk⟩ | ⟨y, rfl, rfl, hd, hk⟩ | ⟨rfl, rfl, hd, hk⟩
  · rcases hk with hk | ⟨hk, hy⟩
    · exact W.iret B.exec B.bytes (B.returns.trans (mK_0 hk)) (hq _ (Or.inl ⟨y, rfl, rfl, by rw [hk]; decide⟩)) (fun q h => hS'.2.2 q h) hd B.notSynchronized
    · exact W.zret B.exec B.bytes (B.returns.trans (mK_3 hk)) (nar_z hy) (hq _ (Or.inl ⟨y, rfl, rfl, by rw [hk]; decide⟩)) (fun q h => hS'.2.2 q h) hd B.notSynchronized
  · exact W.lret B.exec B.bytes (B.returns.trans (mK_1 hk)) (hq _ (Or.inr (Or.inl ⟨y, rfl, rfl, by rw [hk]; decide⟩))) (fun q h => hS'.2.2 q h) hd B.notSynchronized
  · exact W.vret B.exec B.bytes (B.returns.trans (mK_4 hk)) (hq _ (Or.inr (Or.inr ⟨rfl, rfl, hk⟩))) (fun q h => hS'.2.2 q h) hd B.notSynchronized
