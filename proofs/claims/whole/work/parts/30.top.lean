/-! the law's entry: the pure machine's run gives whole_start. (R_law, lw_Z, lw_ret, lw_At: of the skeleton) -/
def R_law : String := "WarmSideLaw"
def lw_P (b : Addr) (xs : List Int32) (args : Array Value) (s : State) : Prop := args = #[.ref b] ∧ s.IntsAt b xs ∧ xs.length ≤ 3072 ∧ (Jvm.Cond.and given_1 narrow_1).before args s = true
def lw_Q (_ : Array Value) (s : State) (o : Outcome) (t : State) : Prop := o = .returned (some (.int 1)) ∧ Framed s o t [] 600000 7302250
def lw_Z (below : List Frame) (a : Array Value) (s : State) : State → Prop := fun t => ∃ o, t.status = .running ∧ Ended t below o ∧ lw_Q a s o t
/-- the law's own end, with 1 on the stack, nothing written that was there before, its room as the claim has it -/
theorem lw_ret {p : Program} {l : Launch} {e : Env} {s : State} {m : MethodId} {below : List Frame} {meth : Method} {c : Code} {b : Nat} (hx : p.tables.exec = Jvm.exec) (hb : c.code = code) (hr : meth.sig.returnType = ret) (hlocks : meth.locks = false) {pc : Nat} {H : Heap} {ls : Array Slot} (hdg : decode code pc = .ok (.ireturn, 1)) : W p l e room_1 s m #[Value.ref b] below meth c H [] 600000 7302250 (lw_Z below #[Value.ref b] s) (F0 m pc ls [.int 1]) := by
  intro T hT X
  obtain ⟨fs, hret, hrun, hended, hW, hframe⟩ := X.leave (v := some (.int 1)) (hlocks := hlocks) (fun h => by rw [hr] at h; cases h)
  have hmeth' : T.vm.method? m = some meth := X.method'
  refine ⟨T.setFrames fs, ?_, .returned (some (.int 1)), hrun, hended, rfl, ⟨_, rfl⟩, hW, hframe⟩
  jvm_step X.here [X.here.top, hx, hb, hdg, hmeth', hr, ret, narrow_b1]
  (try refine ⟨rfl, ?_⟩); (try refine ⟨rfl, ?_⟩)
  first | (intro acts; rw [hret _ acts rfl rfl rfl]) | rw [hret _ _ rfl rfl rfl]
  exact Steps.refl _
/-- what holds at the law's entry: the machine, the code, the tables' words (any of lw_tbl by 'hts w (by decide +kernel)'), the script of L ints xs at the cell b, what the Statement gives of the start (any of its parts by flat_of_before) -/
def lw_At (p : Program) (s : State) (m : MethodId) (meth : Method) (c : Code) (b L : Nat) (xs : Nat → Int32) : Prop :=
  p.tables.exec = Jvm.exec ∧ c.code = code ∧ meth.sig.returnType = ret ∧ c.maxLocals = 4 ∧ s.vm.findClass R_law = some m.cls ∧ (∀ w ∈ lw_tbl, w.before #[Value.ref b] s = true) ∧ va_X b L xs s s.heap ∧ b < s.heap.size ∧ meth.locks = false ∧ (Jvm.Cond.and given_1 narrow_1).before #[Value.ref b] s = true
theorem mC_law : mC 227 = code := rfl
theorem mL_law : mL 227 = 4 := by decide +kernel
theorem mo_law : cnm.getD (moN 227) "" = R_law := by decide +kernel
theorem mn_law : (mY 227).name ≠ "<init>" := by decide +kernel
theorem mm_law : mcO 227 = 1000 ∧ msO 227 = 100000 ∧ mK 227 = 3 := by decide +kernel
theorem nest_tbl {w : Cond} (hw : w ∈ nestW) : w ∈ lw_tbl := by
  unfold nestW at hw
  obtain ⟨q, hq, rfl⟩ := List.mem_map.mp hw
  exact List.mem_append_right _ (List.mem_of_getElem? (mth_ok q (List.mem_filter.mp hq).1).1)
theorem arr_of {s : State} {args : Array Value} {ty : FieldType} (h : (Cond.arrayClass ty).before args s = true) (hne : ∀ C, ty ≠ .object C) : ∃ cA : ClassId, ArrOfT s cA ty ∧ va_RA s cA ty := by
  obtain ⟨cA, kA, comp, h1, h2, h3⟩ := Cond.arrayClass_spec h
  refine ⟨cA, fun n z => ⟨fun k h => (by cases h), kA, h2, comp, h3⟩, ?_⟩
  cases ty <;> first | exact h1 | exact absurd rfl (hne _)
theorem whole_open {p : Program} {e : Env} {s : State} {m : MethodId} {below : List Frame} {meth : Method} {c : Code} (l : Launch) {b L : Nat} {xs : Nat → Int32} (C0 : lw_At p s m meth c b L xs)
    (H : WP (L + 1, fun j => (xs j).toInt) 64 227 0 (iniL 4 [.inr (.inr (.inr ()))]) [] (0, 0) ([], deng []) (den []) (fun r _ _ => r = I 1)) :
    W p l e room_1 s m #[Value.ref b] below meth c s.heap [] 0 0 (lw_Z below #[Value.ref b] s) (entryFrame m ([Value.ref b] : List Value).toArray 4) := by
  obtain ⟨hx, hb, hr, hml, hown, hts, hX, hbl, hlocks, hgv⟩ := C0
  have hta : ∀ w ∈ ALLW, w.before #[Value.ref b] s = true := fun w hw => hts w (allw_tbl hw)
  have hkn : ∀ k, k < 13 → ∃ (cC : ClassId) (iS : Nat → Nat), u_Kn s (clT k).1 (clT k).2.1 (clT k).2.2 cC iS := fun k hk => u_known (n := (clT k).2.2) hta (lay_in hk) (hta _ (allw_of (cls_ok k hk).2.1 rfl))
  obtain ⟨dC, hkn⟩ : ∃ dC : Nat → ClassId, ∀ k, k < 13 → ∃ iS : Nat → Nat, u_Kn s (clT k).1 (clT k).2.1 (clT k).2.2 (dC k) iS := by
    refine ⟨fun k => if hk : k < 13 then (hkn k hk).choose else 0, fun k hk => ?_⟩
    simp only [dif_pos hk]
    exact (hkn k hk).choose_spec
  obtain ⟨dI, hkn⟩ : ∃ dI : Nat → Nat → Nat, ∀ k, k < 13 → u_Kn s (clT k).1 (clT k).2.1 (clT k).2.2 (dC k) (dI k) := by
    refine ⟨fun k => if hk : k < 13 then (hkn k hk).choose else fun _ => 0, fun k hk => ?_⟩
    simp only [dif_pos hk]
    exact (hkn k hk).choose_spec
  obtain ⟨cI, hI⟩ := arr_of (hta _ (allw_of oth_ok.2.1 rfl)) (fun C h => by cases h)
  obtain ⟨cL, hLn⟩ := arr_of (hta _ (allw_of oth_ok.2.2.1 rfl)) (fun C h => by cases h)
  obtain ⟨cZ, hZ⟩ := arr_of (hta _ (allw_of oth_ok.2.2.2 rfl)) (fun C h => by cases h)
  have hK : va_K (dC, dI) vwCl (tyL cI cZ cL) s := by
    refine ⟨fun k q hq => ?_, fun k q hq => ?_⟩
    · have hk : k < 13 := (List.getElem?_eq_some_iff.mp hq).1
      have e := cls_at hk
      rw [hq] at e
      cases e
      exact hkn k hk
    · match k, hq with
      | 0, hq => cases hq; exact hI
      | 1, hq => cases hq; exact hZ
      | 2, hq => cases hq; exact hLn
      | k + 3, hq => simp [tyL] at hq
  have hl := ini_lr (b := b) (ads := []) (n := 4) (as := [.inr (.inr (.inr ()))]) (vs := [.ref b]) ⟨rfl, trivial⟩ rfl
  rw [lg_entry_eq]
  refine SND_of (l := l) H p e room_1 s m _ below meth c dC dI cI cZ cL (fun q => s.heap.size ≤ q) b _ s.heap [] _ [] [] [] ⟨⟨hx, by rw [mC_law]; exact hb, by rw [mL_law]; exact hml, by rw [mo_law]; exact hown, hta⟩, fun w hw => va_Nw.of (nest_tab w hw) (hts w (nest_tbl hw)), hK, fun _ h => h, fun q => absurd q mn_law, by decide, by decide, by decide, by rw [mm_law.1]; decide, by rw [mm_law.2.1]; decide⟩
    (Or.inr ⟨L, xs, rfl, hX, hbl, Nat.not_le.mpr hbl, fun _ => rfl⟩) (fun k q h => by simp at h) ⟨fun i j p q h => by simp at h, fun k q h => by simp at h⟩ va_S.rf ⟨rfl, rfl, fun p s h => by simp at h⟩ trivial hl.1 (by rw [mL_law]; exact hl.2) ⟨Nat.zero_le _, Nat.zero_le _⟩ ?_
  intro pc' ls' r vs' w' h' H' locs' k' t' ws' hQ hrt hP' hD' hS' hwr' hk1 hk2
  rw [mm_law.1] at hk1
  rw [mm_law.2.1] at hk2
  rcases hrt with ⟨y, e1, rfl, hd, -⟩ | ⟨y, e1, -, -, hk⟩ | ⟨-, -, -, hk⟩
  · have hy : y = 1 := by
      have e2 : I 1 = I y.toInt := hQ.symm.trans e1
      have e3 : (1 : Int) = y.toInt := Sum.inl.inj e2
      exact n_eq.mpr (by rw [← e3]; rfl)
    subst hy
    rw [mC_law] at hd
    refine va_forget (fun q hq => hS'.2.2 q hq) (W.widen (k := 600000) (n := 7302250) (by omega) (by omega) ?_)
    exact lw_ret hx hb hr hlocks hd
  · rw [mm_law.2.2] at hk; cases hk
  · rw [mm_law.2.2] at hk; cases hk
/-- whole_start, as the skeleton has it, out of PAIRS -/
theorem whole_from (HPs : PAIRS) {p : Program} {e : Env} {s : State} {m : MethodId} {below : List Frame} {meth : Method} {c : Code} (l : Launch) {b L : Nat} {xs : Nat → Int32} (hL : L ≤ 3072) (C0 : lw_At p s m meth c b L xs) : W p l e room_1 s m #[Value.ref b] below meth c s.heap [] 0 0 (lw_Z below #[Value.ref b] s) (entryFrame m ([Value.ref b] : List Value).toArray 4) :=
  whole_open l C0 (law_all HPs rfl hL (fun j => n_r (xs j)))
