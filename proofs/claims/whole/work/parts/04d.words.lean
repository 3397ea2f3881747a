/-! the words of the tables, by their places -/
def ALLW : List Cond := lw_tbl.filter goodWord
theorem allw_of {i : Nat} {w : Cond} (h : tables_1[i]? = some w) (hg : goodWord w = true) : w ∈ ALLW := List.mem_filter.mpr ⟨List.mem_append_right _ (List.mem_of_getElem? h), hg⟩
theorem allw_ofL {i : Nat} {w : Cond} (h : lw_tbl[i]? = some w) (hg : goodWord w = true) : w ∈ ALLW := List.mem_filter.mpr ⟨List.mem_of_getElem? h, hg⟩
theorem allw_tbl {w : Cond} (h : w ∈ ALLW) : w ∈ lw_tbl := (List.mem_filter.mp h).1
theorem allw_g {c : Cond} (h : c ∈ ALLW) : GoodIn ALLW (c :: ALLW) := fun w hw => by
  have hw' : w ∈ ALLW := (List.mem_cons.mp hw).elim (fun e => e ▸ h) id
  exact ⟨hw', good_of_word (List.mem_filter.mp hw').2⟩
def fldC (q : Nat × Nat × Nat × Nat × Nat) : Cond := .fieldLink (cnm.getD q.1 "") q.2.1 ((clT q.2.2.1).2.1 q.2.2.2.1).1 ((clT q.2.2.1).2.1 q.2.2.2.1).2.1 ((clT q.2.2.1).2.1 q.2.2.2.1).2.2.1
theorem fld_ok : ∀ q ∈ fldW, tables_1[q.2.2.2.2]? = some (fldC q) ∧ q.2.2.2.1 < (clT q.2.2.1).2.2 ∧ q.2.2.1 < 13 := by decide +kernel
def mthY (z : Nat) : MethodName := match z with
  | 0 => yL_law
  | 1 => Lib.objectInit
  | 2 => arraycopyName
  | n + 3 => mY n
def mthC (q : Nat × Nat × Nat × Nat × Nat) : Cond := if q.2.2.2.2 = 0 then .methodLink (cnm.getD q.1 "") q.2.1 (mthY q.2.2.1) else .methodLinkNest (cnm.getD q.1 "") q.2.1 (mthY q.2.2.1) "WarmSide"
theorem mth_ok : ∀ q ∈ mthW, tables_1[q.2.2.2.1]? = some (mthC q) ∧ q.2.2.1 < 230 := by decide +kernel
def nestW : List Cond := (mthW.filter (fun q => !(Nat.beq q.2.2.2.2 0))).map mthC
theorem cst_ok : ∀ q ∈ cstW, tables_1[q.2.2.2]? = some (.constant (cnm.getD q.1 "") q.2.1 (Int32.ofInt q.2.2.1)) := by decide +kernel
theorem lcs_ok : ∀ q ∈ lcsW, tables_1[q.2.2.2]? = some (.constantLong (cnm.getD q.1 "") q.2.1 (Int64.ofInt q.2.2.1)) := by decide +kernel
theorem new_ok : ∀ q ∈ newW, tables_1[q.2.2.2]? = some (.classLink (cnm.getD q.1 "") q.2.1 (clT q.2.2.1).1) ∧ q.2.2.1 < 13 := by decide +kernel
theorem lay_ok : ∀ q ∈ layW, tables_1[q.2.2]? = some (u_lay (clT q.1).1 (clT q.1).2.1 q.2.1) := by decide +kernel
theorem lay_all : ∀ ci, ci < 13 → ∀ k, k < (clT ci).2.2 → ((layW.find? (fun q => Nat.beq q.1 ci && Nat.beq q.2.1 k)).isSome) = true := by decide +kernel
theorem cls_at {ci : Nat} (h : ci < 13) : vwCl[ci]? = some (clT ci) := by
  have h1 : ci < vwCl.length := h
  unfold clT
  rw [List.getD_eq_getElem?_getD, List.getElem?_eq_getElem h1]; rfl
theorem cls_ok : ∀ ci, ci < 13 → tables_1[(cpl.getD ci (0, 0)).1]? = some (.initialized (clT ci).1) ∧ tables_1[(cpl.getD ci (0, 0)).2]? = some (.instantiable (clT ci).1 (clT ci).2.2) ∧ cnm.getD ci "" = (clT ci).1 := by decide +kernel
theorem fty_ok : ∀ ci, ci < 13 → ∀ k, k < (clT ci).2.2 → parseFieldDescriptor ((clT ci).2.1 k).2.2.1 = some ((tyA.getD ci (fun _ => .int)) k) ∧ ((clT ci).2.1 k).1 = (clT ci).1 := by decide +kernel
theorem fnm_ok : ∀ ci, ci < 13 → ∀ a, a < (clT ci).2.2 → ∀ b, b < (clT ci).2.2 → a ≠ b → ((clT ci).2.1 a).2.1 ≠ ((clT ci).2.1 b).2.1 := by decide +kernel

theorem met_ok : ∀ μ, μ < 227 → (plainFor (mY μ) = true ∧ cnm.getD (moN μ) "" = (mY μ).cls ∧ (mY μ).cls ≠ "java/lang/invoke/MethodHandle" ∧ (mY μ).cls ≠ "java/lang/invoke/VarHandle" ∧ (parseMethodDescriptor (mY μ).desc).map (fun d => d.parameters.length) = some (mA μ)) ∧ mL μ ≤ 40 ∧ moN μ < 18 := by decide +kernel
theorem met_ini : ∀ μ, μ < 227 → tables_1[(mpl.getD μ (0, 0, 0)).1]? = some (.initialized (mY μ).cls) := by decide +kernel
theorem met_ist : ∀ μ, μ < 227 → tables_1[(mpl.getD μ (0, 0, 0)).2.1]? = some (if mS μ then .static (mY μ) else .instanceMethod (mY μ)) := by decide +kernel
theorem met_sel : ∀ μ, μ < 227 → mS μ = false → (mY μ).name ≠ "<init>" → lw_tbl[(mpl.getD μ (0, 0, 0)).2.2]? = some (.selects (mY μ).cls (mY μ) (mY μ)) := by decide +kernel
theorem met_cls : ∀ μ, μ < 227 → mS μ = false → moN μ < 13 ∧ (clT (moN μ)).1 = (mY μ).cls := by decide +kernel
theorem oth_ok : (tables_1[24]? = some (.instanceMethod Lib.objectInit) ∧ tables_1[25]? = some (.code Lib.objectInit ⟨#[0xb1]⟩ 1 none) ∧ tables_1[575]? = some (.static arraycopyName) ∧ tables_1[576]? = some (.native arraycopyName) ∧ tables_1[15]? = some (.initialized "java/lang/System")) ∧ tables_1[89]? = some (.arrayClass .int) ∧ tables_1[510]? = some (.arrayClass .long) ∧ tables_1[1331]? = some (.arrayClass .boolean) := by decide +kernel
theorem met_init : ∀ μ, μ < 227 → (mY μ).name = "<init>" → mR μ = none ∧ mS μ = false := by decide +kernel
theorem fcl_ok : ∀ ci, ci < 13 → ∀ k, k < (clT ci).2.2 → fcl ci k ≤ 3 := by decide +kernel
