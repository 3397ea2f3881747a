/-! soundness: the instructions keep it -/
theorem alen_i {w : WD} {p t : Nat} {f : Nat → Prop} (h : alen w p t f) : ∃ n, w.1[p]? = some (.inr (t, n)) ∧ f n := by
  unfold alen at h
  split at h
  · rename_i u n e
    obtain ⟨rfl, h2⟩ := h
    exact ⟨n, e, h2⟩
  · exact h.elim
theorem jmp_i {pc : Nat} {off : Int} {f : Nat → Prop} (h : jmp pc off f) : ∃ t : Nat, (pc : Int) + off = (t : Int) ∧ f t := ⟨_, by have := h.1; omega, h.2⟩
theorem up2_o {h : HP} {p i : Nat} {v : Int} {q : Nat} (hq : q ≠ p) : up2 h p i v q = h q := by funext j; simp [up2, hq]
theorem ug2_o {g : Nat → Nat → Nat} {p i v : Nat} {q : Nat} (hq : q ≠ p) : ug2 g p i v q = g q := by funext j; simp [ug2, hq]
theorem cr_st {h : HP} {p n : Nat} {f : Nat → Int32} (hf : ∀ j, j < n → (f j).toInt = h p j) (x y : Int32) : ∀ j, j < n → (upd f x.toNatClampNeg y j).toInt = up2 h p x.toInt.toNat y.toInt p j := by
  intro j hj
  unfold upd up2
  rw [n_cl]
  by_cases e : j = x.toInt.toNat
  · rw [if_pos e, if_pos ⟨rfl, e⟩]
  · rw [if_neg e, if_neg (fun q => e q.2)]; exact hf j hj
theorem cr_stL {h : HP} {p n : Nat} {f : Nat → Int64} (hf : ∀ j, j < n → (f j).toInt = h p j) (x : Int32) (y : Int64) : ∀ j, j < n → (vp_updL f x.toNatClampNeg y j).toInt = up2 h p x.toInt.toNat y.toInt p j := by
  intro j hj
  unfold vp_updL up2
  rw [n_cl]
  by_cases e : j = x.toInt.toNat
  · rw [if_pos e, if_pos ⟨rfl, e⟩]
  · rw [if_neg e, if_neg (fun q => e q.2)]; exact hf j hj
theorem fvr_i {ads : List Nat} {t g : Nat} {x : Int} {v : Value} (ht : t = 0 ∨ t = 3) (h : fvr ads t g x v) : ∃ y : Int32, v = .int y ∧ y.toInt = x := by
  rcases ht with rfl | rfl <;> exact h
/-- a field's new contents -/
theorem cr_fld {cI cZ cL : ClassId} {ads : List Nat} {g g' : Nat → Nat} {h h' : Nat → Int} {ci kk : Nat} {fs : List Value} {v : Value} (hcl : vwCl[ci]? = some (clT ci)) (hlen : fs.length = (clT ci).2.2) (hfs : ∀ (k : Nat) (v : Value), fs[k]? = some v → fvr ads (fcl ci k) (g k) (h k) v)
    (ho : ∀ k, k ≠ kk → g' k = g k ∧ h' k = h k) (hv : fvr ads (fcl ci kk) (g' kk) (h' kk) v) : cr cI cZ cL ads g' h' (.inl ci) (.inr (ci, fs.set kk v)) := by
  refine ⟨_, rfl, hcl, by rw [List.length_set]; exact hlen, fun k u hk => ?_⟩
  rw [List.getElem?_set] at hk
  by_cases e : kk = k
  · subst e
    simp only [if_true] at hk
    split at hk
    · cases hk; exact hv
    · cases hk
  · rw [if_neg e] at hk
    obtain ⟨h1, h2⟩ := ho k (Ne.symm e)
    rw [h1, h2]
    exact hfs k u hk
theorem fty_0 {t : FieldType} (h : fty t = 0) : t = .int := by cases t <;> simp [fty] at h; rfl
theorem fty_1 {t : FieldType} (h : fty t = 1) : t = .long := by cases t <;> simp [fty] at h; rfl
theorem fty_3 {t : FieldType} (h : fty t = 3) : t = .boolean := by cases t <;> simp [fty] at h; rfl
theorem fty_2 {t : FieldType} (h : fty t = 2) : (∃ n, t = .object n) ∨ ∃ u, t = .array u := by
  cases t <;> simp [fty] at h
  · exact Or.inl ⟨_, rfl⟩
  · exact Or.inr ⟨_, rfl⟩
theorem fvr_def {ads : List Nat} {t : FieldType} (h : fty t ≤ 3) : fvr ads (fty t) 0 0 (defaultValue t) := by
  cases t
  case int => exact ⟨0, rfl, rfl⟩
  case boolean => exact ⟨0, rfl, rfl⟩
  case long => exact ⟨0, rfl, rfl⟩
  case object n => exact Or.inl ⟨rfl, rfl⟩
  case array n => exact Or.inl ⟨rfl, rfl⟩
  all_goals exact absurd h (by simp [fty])
set_option maxHeartbeats 8000000 in
set_option maxRecDepth 100000 in
theorem SND_pfx (l : Launch) : PFX (SND l) := by
  intro S d μ pc L st k w h Q hst p e R s m args below meth c dC dI cI cZ cL A b Qm H locs ls vs ads ws hfr hsc hP hD hSS hwr hsv hlr hL hk hend
  unfold STF at hst
  split at hst
  · exact hst.elim
  rename_i i hcd
  obtain ⟨⟨hx, hb, hml, hown, hts⟩, hN, hK, hA, hin, hμ, hRf, hRl, hRc, hRs⟩ := id hfr
  have K0 : ∀ {pc' : Nat} {L' : LSt} {st' : List PV} {ls' : Array Slot} {vs' : List Value}, SND l S d μ pc' L' st' k w h Q → sv b ads st' vs' → lr b ads L' ls' → L'.length = mL μ → W p l e R s m args below meth c H locs k.1 k.2 Qm (F0 m pc' ls' vs') :=
    fun hS h1 h2 h3 => hS p e R s m args below meth c dC dI cI cZ cL A b Qm H locs _ _ ads ws hfr hsc hP hD hSS hwr h1 h2 h3 hk hend
  have K1 : ∀ {pc' : Nat} {st' : List PV} {vs' : List Value} {w' : WD} {h' : HP} {H' : Heap} {locs' : List Loc} {ws' : va_W}, SND l S d μ pc' L st' k w' h' Q → va_P (dC, dI) vwCl ws' H' → va_D A ws' → va_S A s.heap H' locs' → wr cI cZ cL ads w' h' ws' → sv b ads st' vs' → W p l e R s m args below meth c H' locs' k.1 k.2 Qm (F0 m pc' ls vs') :=
    fun hS h1 h2 h3 h4 h5 => hS p e R s m args below meth c dC dI cI cZ cL A b Qm _ _ _ _ ads _ hfr hsc h1 h2 h3 h4 h5 hlr hL hk hend
  have K2 : ∀ {pc' : Nat} {st' : List PV} {vs' : List Value} {w' : WD} {h' : HP} {H' : Heap} {locs' : List Loc} {ws' : va_W} {k' : Nat × Nat} {t : List Nat}, SND l S d μ pc' L st' k' w' h' Q → va_P (dC, dI) vwCl ws' H' → va_D A ws' → va_S A s.heap H' locs' → wr cI cZ cL (ads ++ t) w' h' ws' → sv b (ads ++ t) st' vs' → (k'.1 ≤ mcO μ ∧ k'.2 ≤ msO μ) → W p l e R s m args below meth c H' locs' k'.1 k'.2 Qm (F0 m pc' ls vs') :=
    fun hS h1 h2 h3 h4 h5 h6 => hS p e R s m args below meth c dC dI cI cZ cL A b Qm _ _ _ _ _ _ hfr hsc h1 h2 h3 h4 h5 hlr.mono hL h6
      (fun pc' ls' r vs' w' h' H' locs' k' t' ws' q1 q2 q3 q4 q5 q6 => hend pc' ls' r vs' w' h' H' locs' k' (_ ++ t') ws' q1 q2 q3 q4 q5 (by rw [← List.append_assoc]; exact q6))
  have hFc : ∀ q, va_A ws H.size q → A q := by
    intro q h
    rcases h with ⟨i, e, h⟩ | h
    · exact hD.2 i _ h
    · exact hA q (Nat.le_trans hSS.1 h)
  have hblind : ∀ {vals : List Value} {sz : Nat}, FrameBlind (PcO dC dI cI cZ cL vals sz ws) := fun a U g mk q => ⟨q.1, q.2.1, q.2.2.1, q.2.2.2.1, va_K.moved (Vm.Alike.refl U.vm) q.2.2.2.2.1, fun w hw => va_Nw.same (u := U) (U := U.calling g mk a) (nest_tab w hw) rfl (q.2.2.2.2.2 w hw)⟩
  have hpre : ∀ {vals : List Value} (U : State), U.heap = H → s.WarmedH U.vm → PcO dC dI cI cZ cL vals H.size ws vals.toArray U := fun U hU hW => ⟨rfl, by rw [hU], by rw [hU]; exact hP, hD.weaken (fun _ _ _ _ => trivial), va_K.moved hW.alike hK, fun w hw => by
    obtain ⟨o, i, y, rfl⟩ := nest_is w hw
    exact va_Nw.warmM hW (hN _ hw)⟩
  have CG : ∀ {ν : Nat} {rest : List PV} {vrest : List Value} {X : Array Value}, va_Run p l e R s m args below meth c H locs k.1 k.2 (mcO ν) (msO ν) (F0 m pc ls vs) vrest (QcO dC dI cI cZ cL ν (fun r w' h' => SND l S d μ (pc + 3) L (psh ν r rest) (k.1 + mcO ν, k.2 + msO ν) w' h' Q) ads (va_A ws H.size) X) (va_A ws H.size) → sv b ads rest vrest → k.1 + mcO ν ≤ mcO μ → k.2 + msO ν ≤ msO μ → W p l e R s m args below meth c H locs k.1 k.2 Qm (F0 m pc ls vs) := by
    intro ν rest vrest X hr hrest h1 h2
    refine pg_call hr hSS (fun q _ h => hFc q h) hFc (fun st v t h => h.2) (fun ov st t H1 locs1 ht hq hS1 => ?_)
    obtain ⟨⟨ov', r, w', h', ws', t', e1, hov, hKK, hP1, hD1, hwr1⟩, -⟩ := hq
    cases e1
    rw [ht] at hP1
    refine K2 hKK hP1 (hD1.weaken (fun _ q _ h => hFc q.1 h)) hS1 hwr1 ?_ ⟨h1, h2⟩
    rcases hov with ⟨y, rfl, rfl, h4⟩ | ⟨y, rfl, rfl, h4⟩ | ⟨rfl, rfl, h4⟩
    · unfold psh; rw [if_neg h4]; exact ⟨⟨y, rfl, rfl⟩, hrest.mono⟩
    · unfold psh; rw [if_neg h4]; exact ⟨⟨y, rfl, rfl⟩, hrest.mono⟩
    · unfold psh; rw [if_pos h4]; exact hrest.mono
  have hsz : ls.size = mL μ := hlr.1.trans hL
  have ST : ∀ {j : Nat} {v : PV} {x : Value} {ls' : Array Slot} {st' : List PV} {vs' : List Value} {pc' : Nat}, (Nat.blt j L.length && noJ L j) = true → rv b ads v x → SND l S d μ pc' (L.set j (some v)) st' k w h Q → sv b ads st' vs' → lv_has ls' (mL μ) ((j, x) :: (allv ls).filter (fun q => !(q.1 == j) && !(q.1 + 1 == j && q.2.category == 2))) → W p l e R s m args below meth c H locs k.1 k.2 Qm (F0 m pc' ls' vs') := by
    intro j v x ls' st' vs' pc' h1 h2 h3 h4 h5
    simp only [Bool.and_eq_true] at h1
    refine K0 h3 h4 (lr_set hlr h1.2 h2 allv_filter (by rw [hsz]; exact h5)) (by rw [List.length_set]; exact hL)
  have hav : lv_has ls (mL μ) (allv ls) := by rw [← hsz]; exact allv_has hlr.2.1
  have JL : ∀ {j : Nat}, (Nat.blt j L.length && noJ L j) = true → j < mL μ := fun h1 => by
    simp only [Bool.and_eq_true] at h1
    rw [← hL]; exact Nat.le_of_ble_eq_true h1.1
  cases i
  case iconst n => exact lv_iconst hx hb (cd1 hμ hcd (by simp [lenI])) rfl (K0 hst.2 ⟨⟨_, rfl, n_of hst.1⟩, hsv⟩ hlr hL)
  case bipush n => exact lv_bipush hx hb (cd1 hμ hcd (by simp [lenI])) rfl (K0 hst.2 ⟨⟨_, rfl, n_8 hst.1⟩, hsv⟩ hlr hL)
  case sipush n => exact lv_sipush hx hb (cd1 hμ hcd (by simp [lenI])) rfl (K0 hst.2 ⟨⟨_, rfl, n_16 hst.1⟩, hsv⟩ hlr hL)
  case lconst n => exact lv_lconst hx hb (cd1 hμ hcd (by simp [lenI])) rfl (K0 hst ⟨⟨_, rfl, (by decide : ∀ n : Fin 2, (Int64.ofNat (n : Nat)).toInt = ((n : Nat) : Int)) n⟩, hsv⟩ hlr hL)
  case ldc j =>
    unfold stp at hst; dsimp only at hst; split at hst
    · rename_i v hv
      exact lv_ldc hx hb hown (hts _ (cstR_ok hv)) (cd1 hμ hcd (by simp [lenI])) (K0 hst.2 ⟨⟨_, rfl, n_of hst.1⟩, hsv⟩ hlr hL)
    · exact hst.elim
  case ldc_w j =>
    unfold stp at hst; dsimp only at hst; split at hst
    · rename_i v hv
      exact lv_ldcw hx hb hown (hts _ (cstR_ok hv)) (cd1 hμ hcd (by simp [lenI])) (K0 hst.2 ⟨⟨_, rfl, n_of hst.1⟩, hsv⟩ hlr hL)
    · exact hst.elim
  case ldc2_w j =>
    unfold stp at hst; dsimp only at hst; split at hst
    · rename_i v hv
      exact lv_ldc2 hx hb hown (hts _ (lcsR_ok hv)) (cd1 hμ hcd (by simp [lenI])) (K0 hst.2 ⟨⟨_, rfl, m_of hst.1⟩, hsv⟩ hlr hL)
    · exact hst.elim
  case iload j =>
    obtain ⟨y, h1, -, h2⟩ := ldI_lr hst hlr
    exact lv_iload hx hb (cd1 hμ hcd (by simp [lenI])) h1 (K0 h2 ⟨⟨_, rfl, rfl⟩, hsv⟩ hlr hL)
  case iload_n j =>
    obtain ⟨y, h1, -, h2⟩ := ldI_lr hst hlr
    exact lv_iload_n hx hb (cd1 hμ hcd (by simp [lenI])) rfl h1 (K0 h2 ⟨⟨_, rfl, rfl⟩, hsv⟩ hlr hL)
  case lload_n j =>
    obtain ⟨y, h1, h2⟩ := ldJ_lr hst hlr
    exact lv_lload_n hx hb (cd1 hμ hcd (by simp [lenI])) rfl h1 (K0 h2 ⟨⟨_, rfl, rfl⟩, hsv⟩ hlr hL)
  case aload j =>
    have hst' : ldA L j (fun v => SND l S d μ (pc + 2) L (v :: st) k w h Q) := hst
    obtain ⟨y, v, h1, h2, h3⟩ := ldA_lr hst' hlr
    exact lv_aload hx hb (cd1 hμ hcd (by simp [lenI])) h1 (K0 h3 ⟨h2, hsv⟩ hlr hL)
  case aload_n j =>
    have hst' : ldA L (j : Nat) (fun v => SND l S d μ (pc + 1) L (v :: st) k w h Q) := hst
    obtain ⟨y, v, h1, h2, h3⟩ := ldA_lr hst' hlr
    exact lv_aload_n hx hb (cd1 hμ hcd (by simp [lenI])) rfl h1 (K0 h3 ⟨h2, hsv⟩ hlr hL)
  case istore j =>
    obtain ⟨x, st', vs', rfl, rfl, hs', h1, h2⟩ := i1_sv hst hsv
    exact lv_istore hx hb (cd1 hμ hcd (by simp [lenI])) hav (JL h1) rfl (fun ls' hl' => ST (v := .inl x.toInt) (x := .int x) h1 ⟨x, rfl, rfl⟩ h2 hs' hl')
  case istore_n j =>
    obtain ⟨x, st', vs', rfl, rfl, hs', h1, h2⟩ := i1_sv hst hsv
    exact lv_istore_n hx hb (cd1 hμ hcd (by simp [lenI])) rfl hav (JL h1) rfl (fun ls' hl' => ST (v := .inl x.toInt) (x := .int x) h1 ⟨x, rfl, rfl⟩ h2 hs' hl')
  case astore_n j =>
    have hst' : a1 st (fun v st => stV L (j : Nat) v (fun L => SND l S d μ (pc + 1) L st k w h Q)) := hst
    obtain ⟨v, a, st', vs', rfl, rfl, hr, hs', h1, h2⟩ := a1_sv hst' hsv
    exact lv_astore_n hx hb (cd1 hμ hcd (by simp [lenI])) rfl hav (JL h1) rfl (fun ls' hl' => ST h1 hr h2 hs' hl')
  case iinc j n =>
    obtain ⟨y, h1, hLj, h2, h3, h4⟩ := ldI_lr hst hlr
    refine lv_iinc (k := 0) (lv := (j, .int y) :: allv ls) hx hb (cd1 hμ hcd (by simp [lenI])) ⟨hsz, hlr.2.1, fun q hq => ?_⟩ rfl rfl (JL h3) rfl (fun ls' hl' => ?_)
    · rcases List.mem_cons.mp hq with rfl | hq
      · exact h1
      · exact hav.2.2 q hq
    · have e1 : (y + Int32.ofInt n).toInt = w32 (y.toInt + n) := by rw [n_add, n_of h2]
      refine ST (v := .inl (w32 (y.toInt + n))) (x := .int (y + Int32.ofInt n)) h3 ⟨_, rfl, e1⟩ h4 hsv ?_
      have e2 : ((j, Value.int y) :: allv ls).filter (fun q => !(q.1 == j) && !(q.1 + 1 == j && q.2.category == 2)) = (allv ls).filter (fun q => !(q.1 == j) && !(q.1 + 1 == j && q.2.category == 2)) := by
        rw [List.filter_cons_of_neg]; simp
      rw [e2] at hl'
      exact hl'
  case iadd =>
    obtain ⟨x, y, st', vs', rfl, rfl, hs', h1⟩ := i2_sv hst hsv
    exact lv_iadd hx hb (cd1 hμ hcd (by simp [lenI])) (K0 h1 ⟨⟨_, rfl, n_add x y⟩, hs'⟩ hlr hL)
  case isub =>
    obtain ⟨x, y, st', vs', rfl, rfl, hs', h1⟩ := i2_sv hst hsv
    exact lv_isub hx hb (cd1 hμ hcd (by simp [lenI])) (K0 h1 ⟨⟨_, rfl, n_sub x y⟩, hs'⟩ hlr hL)
  case imul =>
    obtain ⟨x, y, st', vs', rfl, rfl, hs', h1⟩ := i2_sv hst hsv
    exact lv_imul hx hb (cd1 hμ hcd (by simp [lenI])) (K0 h1 ⟨⟨_, rfl, n_mul x y⟩, hs'⟩ hlr hL)
  case idiv =>
    obtain ⟨x, y, st', vs', rfl, rfl, hs', h0, h1⟩ := i2_sv hst hsv
    exact lv_idiv hx hb (cd1 hμ hcd (by simp [lenI])) (fun q => h0 (by rw [q]; rfl)) (K0 h1 ⟨⟨_, rfl, n_div x y⟩, hs'⟩ hlr hL)
  case irem =>
    obtain ⟨x, y, st', vs', rfl, rfl, hs', h0, h1⟩ := i2_sv hst hsv
    have hne : ¬ y = 0 := fun q => h0 (by rw [q]; rfl)
    exact lv_irem hx hb (cd1 hμ hcd (by simp [lenI])) hne (K0 h1 ⟨⟨_, rfl, n_rem x y hne⟩, hs'⟩ hlr hL)
  case ineg =>
    obtain ⟨x, st', vs', rfl, rfl, hs', h1⟩ := i1_sv hst hsv
    exact lv_ineg hx hb (cd1 hμ hcd (by simp [lenI])) (K0 h1 ⟨⟨_, rfl, n_neg x⟩, hs'⟩ hlr hL)
  case iand =>
    obtain ⟨x, y, st', vs', rfl, rfl, hs', h1⟩ := i2_sv hst hsv
    exact lv_iand hx hb (cd1 hμ hcd (by simp [lenI])) (K0 h1 ⟨⟨_, rfl, by unfold bAnd; rw [n_o, n_o]⟩, hs'⟩ hlr hL)
  case ior =>
    obtain ⟨x, y, st', vs', rfl, rfl, hs', h1⟩ := i2_sv hst hsv
    exact lv_ior hx hb (cd1 hμ hcd (by simp [lenI])) (K0 h1 ⟨⟨_, rfl, by unfold bOr; rw [n_o, n_o]⟩, hs'⟩ hlr hL)
  case ixor =>
    obtain ⟨x, y, st', vs', rfl, rfl, hs', h1⟩ := i2_sv hst hsv
    exact lv_ixor hx hb (cd1 hμ hcd (by simp [lenI])) (K0 h1 ⟨⟨_, rfl, by unfold bXor; rw [n_o, n_o]⟩, hs'⟩ hlr hL)
  case ishl =>
    obtain ⟨x, y, st', vs', rfl, rfl, hs', h1⟩ := i2_sv hst hsv
    exact lv_ishl hx hb (cd1 hμ hcd (by simp [lenI])) (K0 h1 ⟨⟨_, rfl, by unfold bShl; rw [n_o, n_o]⟩, hs'⟩ hlr hL)
  case ishr =>
    obtain ⟨x, y, st', vs', rfl, rfl, hs', h1⟩ := i2_sv hst hsv
    exact lv_ishr hx hb (cd1 hμ hcd (by simp [lenI])) (K0 h1 ⟨⟨_, rfl, by unfold bShr; rw [n_o, n_o]⟩, hs'⟩ hlr hL)
  case iushr =>
    obtain ⟨x, y, st', vs', rfl, rfl, hs', h1⟩ := i2_sv hst hsv
    exact lv_iushr hx hb (cd1 hμ hcd (by simp [lenI])) rfl (K0 h1 ⟨⟨_, rfl, by unfold bUsh; rw [n_o, n_o]⟩, hs'⟩ hlr hL)
  case ladd =>
    obtain ⟨x, y, st', vs', rfl, rfl, hs', h1⟩ := j2_sv hst hsv
    exact lv_ladd hx hb (cd1 hμ hcd (by simp [lenI])) (K0 h1 ⟨⟨_, rfl, m_add x y⟩, hs'⟩ hlr hL)
  case land =>
    obtain ⟨x, y, st', vs', rfl, rfl, hs', h1⟩ := j2_sv hst hsv
    exact lv_land hx hb (cd1 hμ hcd (by simp [lenI])) (K0 h1 ⟨⟨_, rfl, by unfold lAnd; rw [m_o, m_o]⟩, hs'⟩ hlr hL)
  case lor =>
    obtain ⟨x, y, st', vs', rfl, rfl, hs', h1⟩ := j2_sv hst hsv
    exact lv_lor hx hb (cd1 hμ hcd (by simp [lenI])) (K0 h1 ⟨⟨_, rfl, by unfold lOr; rw [m_o, m_o]⟩, hs'⟩ hlr hL)
  case lshl =>
    obtain ⟨x, y, st', vs', rfl, rfl, hs', h1⟩ := ji_sv hst hsv
    exact lv_lshl hx hb (cd1 hμ hcd (by simp [lenI])) rfl (K0 h1 ⟨⟨_, rfl, by unfold lShl; rw [m_o, n_o]⟩, hs'⟩ hlr hL)
  case lshr =>
    obtain ⟨x, y, st', vs', rfl, rfl, hs', h1⟩ := ji_sv hst hsv
    exact lv_lshr hx hb (cd1 hμ hcd (by simp [lenI])) rfl (K0 h1 ⟨⟨_, rfl, by unfold lShr; rw [m_o, n_o]⟩, hs'⟩ hlr hL)
  case lushr =>
    obtain ⟨x, y, st', vs', rfl, rfl, hs', h1⟩ := ji_sv hst hsv
    exact lv_lushr hx hb (cd1 hμ hcd (by simp [lenI])) rfl (K0 h1 ⟨⟨_, rfl, by unfold lUsh; rw [m_o, n_o]⟩, hs'⟩ hlr hL)
  case lcmp =>
    obtain ⟨x, y, st', vs', rfl, rfl, hs', h1⟩ := j2_sv hst hsv
    exact W.lcmp hx hb (cd1 hμ hcd (by simp [lenI])) (K0 h1 ⟨⟨_, rfl, m_cmp x y⟩, hs'⟩ hlr hL)
  case i2l =>
    obtain ⟨x, st', vs', rfl, rfl, hs', h1⟩ := i1_sv hst hsv
    exact lv_i2l hx hb (cd1 hμ hcd (by simp [lenI])) rfl (K0 h1 ⟨⟨_, rfl, n_l x⟩, hs'⟩ hlr hL)
  case l2i =>
    obtain ⟨x, st', vs', rfl, rfl, hs', h1⟩ := j1_sv hst hsv
    exact lv_l2i hx hb (cd1 hμ hcd (by simp [lenI])) rfl (K0 h1 ⟨⟨_, rfl, m_i x⟩, hs'⟩ hlr hL)
  case dup =>
    unfold stp at hst; dsimp only at hst; split at hst
    · obtain ⟨x, xs, rfl, g1, g2⟩ := sv_c hsv
      exact lv_dup hx hb (cd1 hμ hcd (by simp [lenI])) ((rv_cat g1).trans hst.1) (K0 hst.2 ⟨g1, g1, g2⟩ hlr hL)
    · exact hst.elim
  case pop =>
    unfold stp at hst; dsimp only at hst; split at hst
    · obtain ⟨x, xs, rfl, g1, g2⟩ := sv_c hsv
      exact lv_pop hx hb (cd1 hμ hcd (by simp [lenI])) ((rv_cat g1).trans hst.1) (K0 hst.2 g2 hlr hL)
    · exact hst.elim
  case dup2 =>
    unfold stp at hst; dsimp only at hst; split at hst
    · obtain ⟨x, xs, rfl, g1, g2⟩ := sv_c hsv
      obtain ⟨y, ys, rfl, g3, g4⟩ := sv_c g2
      exact lv_dup2_11 hx hb (cd1 hμ hcd (by simp [lenI])) ((rv_cat g1).trans hst.1.1) ((rv_cat g3).trans hst.1.2) (K0 hst.2 ⟨g1, g3, g1, g3, g4⟩ hlr hL)
    · exact hst.elim
  case goto off =>
    have hst' : jmp pc off (fun t => SND l S d μ t L st k w h Q) := hst
    obtain ⟨t, ht, h1⟩ := jmp_i hst'
    exact lv_goto hx hb (cd1 hμ hcd (by simp [lenI])) ht (K0 h1 hsv hlr hL)
  case ifCond q off =>
    obtain ⟨x, st', vs', rfl, rfl, hs', h0, h1, h2⟩ := i1_sv hst hsv
    have ht : (pc : Int) + off = (((pc : Int) + off).toNat : Int) := by omega
    have hd := cd1 hμ hcd (by simp [lenI])
    cases q
    · exact lv_if_eq hx hb hd ht (fun q => K0 (h1 (n_eq.mp q)) hs' hlr hL) (fun q => K0 (h2 (fun z => q (n_eq.mpr z))) hs' hlr hL)
    · exact lv_if_ne hx hb hd ht (fun q => K0 (h1 (fun z => q (n_eq.mpr z))) hs' hlr hL) (fun q => K0 (h2 (fun z => z (n_eq.mp q))) hs' hlr hL)
    · exact lv_if_lt hx hb hd ht (fun q => K0 (h1 (n_lt.mp q)) hs' hlr hL) (fun q => K0 (h2 (fun z => q (n_lt.mpr z))) hs' hlr hL)
    · exact lv_if_ge hx hb hd ht (fun q => K0 (h1 (n_le.mp q)) hs' hlr hL) (fun q => K0 (h2 (fun z => q (n_le.mpr z))) hs' hlr hL)
    · exact lv_if_gt hx hb hd ht (fun q => K0 (h1 (n_lt.mp q)) hs' hlr hL) (fun q => K0 (h2 (fun z => q (n_lt.mpr z))) hs' hlr hL)
    · exact lv_if_le hx hb hd ht (fun q => K0 (h1 (n_le.mp q)) hs' hlr hL) (fun q => K0 (h2 (fun z => q (n_le.mpr z))) hs' hlr hL)
  case if_icmp q off =>
    obtain ⟨x, y, st', vs', rfl, rfl, hs', h0, h1, h2⟩ := i2_sv hst hsv
    have ht : (pc : Int) + off = (((pc : Int) + off).toNat : Int) := by omega
    have hd := cd1 hμ hcd (by simp [lenI])
    cases q
    · exact lv_icmp_eq hx hb hd ht (fun q => K0 (h1 (n_eq.mp q)) hs' hlr hL) (fun q => K0 (h2 (fun z => q (n_eq.mpr z))) hs' hlr hL)
    · exact lv_icmp_ne hx hb hd ht (fun q => K0 (h1 (fun z => q (n_eq.mpr z))) hs' hlr hL) (fun q => K0 (h2 (fun z => z (n_eq.mp q))) hs' hlr hL)
    · exact lv_icmp_lt hx hb hd ht (fun q => K0 (h1 (n_lt.mp q)) hs' hlr hL) (fun q => K0 (h2 (fun z => q (n_lt.mpr z))) hs' hlr hL)
    · exact lv_icmp_ge hx hb hd ht (fun q => K0 (h1 (n_le.mp q)) hs' hlr hL) (fun q => K0 (h2 (fun z => q (n_le.mpr z))) hs' hlr hL)
    · exact lv_icmp_gt hx hb hd ht (fun q => K0 (h1 (n_lt.mp q)) hs' hlr hL) (fun q => K0 (h2 (fun z => q (n_lt.mpr z))) hs' hlr hL)
    · exact lv_icmp_le hx hb hd ht (fun q => K0 (h1 (n_le.mp q)) hs' hlr hL) (fun q => K0 (h2 (fun z => q (n_le.mpr z))) hs' hlr hL)
  case tableswitch df lo hi offs =>
    obtain ⟨x, st', vs', rfl, rfl, hs', h1, h2⟩ := i1_sv hst hsv
    obtain ⟨n, hd, -⟩ := cd_ok hμ hcd
    by_cases q : x.toInt < lo ∨ hi < x.toInt
    · obtain ⟨t, ht, h3⟩ := jmp_i (h1 q)
      exact lv_tableOut hx hb hd q ht (K0 h3 hs' hlr hL)
    · obtain ⟨off, ho, h3⟩ := h2 q
      obtain ⟨t, ht, h4⟩ := jmp_i h3
      exact lv_tableIn hx hb hd (fun z => q (Or.inl z)) (fun z => q (Or.inr z)) ho ht (K0 h4 hs' hlr hL)
  case getfield j =>
    have hst' : gtF μ j pc L st k w h (fun pc L st k w h => SND l S d μ pc L st k w h Q) := hst
    unfold gtF at hst'
    split at hst'
    · exact hst'.elim
    rename_i ci kk hf
    obtain ⟨q, a, st', vs', rfl, rfl, ha, hs', hsh, hst'⟩ := r1_sv hst' hsv
    obtain ⟨hl1, hkN, hci⟩ := fldR_ok hf
    obtain ⟨e0, he, fs, rfl, hcl, hlen, hfs⟩ := hwr.at hsh ha
    have hk2 : kk < fs.length := by omega
    have hv := hfs kk fs[kk] (List.getElem?_eq_getElem hk2)
    have G : ∀ {st2 : List PV}, SND l S d μ (pc + 3) L st2 k w h Q → sv b ads st2 (fs[kk] :: vs') → W p l e R s m args below meth c H locs k.1 k.2 Qm (F0 m pc ls (.ref a :: vs')) := fun h1 h2 =>
      va_get hx hb hts (lay_in hci) hown hK hP q he (cls_at hci) kk hkN (hts _ hl1) (fun _ h => h) (List.getElem?_eq_getElem hk2) (cd1 hμ hcd (by simp [lenI])) (K0 h1 h2 hlr hL)
    split at hst'
    · rename_i hz
      rw [hz] at hv
      obtain ⟨y, hy, hy2⟩ := fvr_i (Or.inl rfl) hv
      exact G hst' ⟨⟨y, hy, hy2⟩, hs'⟩
    · rename_i hz
      rw [hz] at hv
      obtain ⟨y, hy, hy2⟩ := fvr_i (Or.inr rfl) hv
      exact G hst' ⟨⟨y, hy, hy2⟩, hs'⟩
    · rename_i hz
      rw [hz] at hv
      obtain ⟨y, hy, hy2⟩ := hv
      exact G hst' ⟨⟨y, hy, hy2⟩, hs'⟩
    · rename_i hz
      rw [hz] at hv
      split at hst'
      · exact hst'.elim
      · rename_i r hr
        rcases hv with ⟨hv, -⟩ | ⟨r', a', hr', ha', hv⟩
        · rw [hr] at hv; cases hv
        · rw [hr] at hr'
          cases hr'
          exact G hst' ⟨⟨a', ha', hv⟩, hs'⟩
    · exact hst'.elim
  case putfield j =>
    have hst' : ptF μ j pc L st k w h (fun pc L st k w h => SND l S d μ pc L st k w h Q) := hst
    unfold ptF at hst'
    split at hst'
    · exact hst'.elim
    rename_i ci kk hf
    obtain ⟨hgd, hst'⟩ := hst'
    obtain ⟨hl1, hkN, hci⟩ := fldR_ok hf
    have hty := fty_ok ci hci kk hkN
    have G : ∀ {q a : Nat} {v : Value} {vs' : List Value} {st2 : List PV} {g' : Nat → Nat → Nat} {h' : HP}, ads[q]? = some a → w.1[q]? = some (.inl ci) → narrow ((tyA.getD ci (fun _ => .int)) kk) v = v → fits ((tyA.getD ci (fun _ => .int)) kk) v = true → (∀ z, z ≠ q → g' z = w.2 z) → (∀ z, z ≠ q → h' z = h z) → (∀ z, z ≠ kk → g' q z = w.2 q z ∧ h' q z = h q z) → fvr ads (fcl ci kk) (g' q kk) (h' q kk) v → SND l S d μ (pc + 3) L st2 k (w.1, g') h' Q → sv b ads st2 vs' → W p l e R s m args below meth c H locs k.1 k.2 Qm (F0 m pc ls (v :: .ref a :: vs')) := by
      intro q a v vs' st2 g' h' ha hsh hn hft hg hh ho hv hnx hs2
      obtain ⟨e0, he, fs, rfl, hcl, hlen, hfs⟩ := hwr.at hsh ha
      have hk2 : kk < fs.length := by omega
      have hfin : ∀ (H1 : Heap) (locs1 : List Loc), va_P (dC, dI) vwCl (ws.set q (a, .inr (ci, fs.set kk v))) H1 → va_D A (ws.set q (a, .inr (ci, fs.set kk v))) → va_S A s.heap H1 locs1 → W p l e R s m args below meth c H1 locs1 k.1 k.2 Qm (F0 m (pc + 3) ls vs') := fun H1 locs1 q1 q2 q3 =>
        K1 hnx q1 q2 q3 (hwr.put hsh he hg hh (cr_fld hcl hlen hfs ho hv)) hs2
      cases hff : ffin ci kk
      · exact va_put hx hb hts (lay_in hci) (tyA.getD ci (fun _ => .int)) (fun z hz => (fty_ok ci hci z hz).1) (fnm_ok ci hci) hown hK hP hD hSS q he (cls_at hci) kk hkN (hts _ hl1) (fun _ h => h) hff hty.1 hn hft hk2 (cd1 hμ hcd (by simp [lenI])) hfin
      · unfold gdP at hgd
        rw [hff] at hgd
        simp only [Bool.not_true, Bool.false_or, Bool.and_eq_true, beq_iff_eq] at hgd
        have hdecl : ((clT ci).2.1 kk).1 = cnm.getD (moN μ) "" := by rw [hty.2, hgd.2, (cls_ok ci hci).2.2]
        exact va_putF hx hb hts (lay_in hci) (tyA.getD ci (fun _ => .int)) (fun z hz => (fty_ok ci hci z hz).1) (fnm_ok ci hci) hown hK hP hD hSS q he (cls_at hci) kk hkN (hts _ hl1) (fun _ h => h) hff (hin hgd.1) hdecl hty.1 hn hft hk2 (cd1 hμ hcd (by simp [lenI])) hfin
    split at hst'
    · rename_i hz
      obtain ⟨x, st2, vs2, rfl, rfl, hs2, hst'⟩ := i1_sv hst' hsv
      obtain ⟨q, a, st', vs', rfl, rfl, ha, hs', hsh, hst'⟩ := r1_sv hst' hs2
      have ht := fty_0 hz
      refine G (g' := w.2) ha hsh (by rw [ht]; rfl) (by rw [ht]; rfl) (fun _ _ => rfl) (fun z hz => up2_o hz) (fun z hz => ⟨rfl, by simp [up2, hz]⟩) ?_ hst' hs'
      rw [hz]; exact ⟨x, rfl, by simp [up2]⟩
    · rename_i hz
      obtain ⟨x, st2, vs2, rfl, rfl, hs2, hst'⟩ := i1_sv hst' hsv
      obtain ⟨q, a, st', vs', rfl, rfl, ha, hs', hsh, hb01, hst'⟩ := r1_sv hst' hs2
      have ht := fty_3 hz
      refine G (g' := w.2) ha hsh (by rw [ht]; exact nar_z (z_of hb01)) (by rw [ht]; exact fits_z (z_of hb01)) (fun _ _ => rfl) (fun z hz => up2_o hz) (fun z hz => ⟨rfl, by simp [up2, hz]⟩) ?_ hst' hs'
      rw [hz]; exact ⟨x, rfl, by simp [up2]⟩
    · rename_i hz
      obtain ⟨x, st2, vs2, rfl, rfl, hs2, hst'⟩ := j1_sv hst' hsv
      obtain ⟨q, a, st', vs', rfl, rfl, ha, hs', hsh, hst'⟩ := r1_sv hst' hs2
      have ht := fty_1 hz
      refine G (g' := w.2) ha hsh (by rw [ht]; rfl) (by rw [ht]; rfl) (fun _ _ => rfl) (fun z hz => up2_o hz) (fun z hz => ⟨rfl, by simp [up2, hz]⟩) ?_ hst' hs'
      rw [hz]; exact ⟨x, rfl, by simp [up2]⟩
    · rename_i hz
      obtain ⟨r, ar, st2, vs2, rfl, rfl, har, hs2, hst'⟩ := r1_sv hst' hsv
      obtain ⟨q, a, st', vs', rfl, rfl, ha, hs', hsh, hst'⟩ := r1_sv hst' hs2
      have ht := fty_2 hz
      refine G (h' := h) ha hsh (by rcases ht with ⟨n, ht⟩ | ⟨n, ht⟩ <;> (rw [ht]; rfl)) (by rcases ht with ⟨n, ht⟩ | ⟨n, ht⟩ <;> (rw [ht]; rfl)) (fun z hz => ug2_o hz) (fun _ _ => rfl) (fun z hz => ⟨by simp [ug2, hz], rfl⟩) ?_ hst' hs'
      rw [hz]; exact Or.inr ⟨r, ar, by simp [ug2], har, rfl⟩
    · exact hst'.elim
  case iaload =>
    have hst' : ald S pc L st k w h (fun pc L st k w h => SND l S d μ pc L st k w h Q) := hst
    obtain ⟨x, st2, vs2, rfl, rfl, hs2, hst'⟩ := i1_sv hst' hsv
    split at hst'
    · rename_i q st3 _
      obtain ⟨xr, vs', rfl, ⟨a, ha, rfl⟩, hs'⟩ := sv_c hs2
      obtain ⟨n, hsh, hin2, hst'⟩ := alen_i hst'
      obtain ⟨e0, he, f, rfl, hf⟩ := hwr.at hsh ha
      refine va_iald hx hb hK hP q 0 he rfl (n_in hin2) (cd1 hμ hcd (by simp [lenI])) (K0 hst' ⟨⟨_, rfl, ?_⟩, hs'⟩ hlr hL)
      rw [n_cl]; exact hf _ (by omega)
    · rename_i u st3
      obtain ⟨xr, vs', rfl, hxr, hs'⟩ := sv_c hs2
      have hxr' : xr = .ref b := hxr
      subst hxr'
      rcases hsc with hsc | ⟨n, xs, hsn, hX, hbl, hbA, hxs⟩
      · rw [hsc] at hst'; exact hst'.elim
      · rw [hsn] at hst'
        refine va_sld hx hb hX hbl hbA hSS (n_in hst'.1) (cd1 hμ hcd (by simp [lenI])) (K0 hst'.2 ⟨⟨_, rfl, ?_⟩, hs'⟩ hlr hL)
        rw [n_cl]; exact hxs _
    · exact hst'.elim
  case baload =>
    obtain ⟨x, st2, vs2, rfl, rfl, hs2, hst'⟩ := i1_sv hst hsv
    obtain ⟨q, a, st', vs', rfl, rfl, ha, hs', hst'⟩ := r1_sv hst' hs2
    obtain ⟨n, hsh, hin2, hst'⟩ := alen_i hst'
    obtain ⟨e0, he, f, rfl, hf⟩ := hwr.at hsh ha
    refine va_zald hx hb hK hP q 1 he rfl (n_in hin2) (cd1 hμ hcd (by simp [lenI])) (K0 hst' ⟨⟨_, rfl, ?_⟩, hs'⟩ hlr hL)
    rw [n_cl]; exact hf _ (by omega)
  case laload =>
    obtain ⟨x, st2, vs2, rfl, rfl, hs2, hst'⟩ := i1_sv hst hsv
    obtain ⟨q, a, st', vs', rfl, rfl, ha, hs', hst'⟩ := r1_sv hst' hs2
    obtain ⟨n, hsh, hin2, hst'⟩ := alen_i hst'
    obtain ⟨e0, he, f, rfl, hf⟩ := hwr.at hsh ha
    refine va_lald hx hb hK hP q 2 he rfl (n_in hin2) (cd1 hμ hcd (by simp [lenI])) (K0 hst' ⟨⟨_, rfl, ?_⟩, hs'⟩ hlr hL)
    rw [n_cl]; exact hf _ (by omega)
  case iastore =>
    obtain ⟨x, y, st2, vs2, rfl, rfl, hs2, hst'⟩ := i2_sv hst hsv
    obtain ⟨q, a, st', vs', rfl, rfl, ha, hs', hst'⟩ := r1_sv hst' hs2
    obtain ⟨n, hsh, hin2, hst'⟩ := alen_i hst'
    obtain ⟨e0, he, f, rfl, hf⟩ := hwr.at hsh ha
    exact va_iast hx hb hK hP hD hSS q 0 he rfl (n_in hin2) (cd1 hμ hcd (by simp [lenI])) (fun H1 locs1 q1 q2 q3 => K1 (w' := (w.1, w.2)) hst' q1 q2 q3 (hwr.put hsh he (fun _ _ => rfl) (fun z hz => up2_o hz) ⟨_, rfl, cr_st hf x y⟩) hs')
  case bastore =>
    obtain ⟨x, y, st2, vs2, rfl, rfl, hs2, hst'⟩ := i2_sv hst hsv
    obtain ⟨q, a, st', vs', rfl, rfl, ha, hs', hst'⟩ := r1_sv hst' hs2
    obtain ⟨n, hsh, hin2, hb01, hst'⟩ := alen_i hst'
    obtain ⟨e0, he, f, rfl, hf⟩ := hwr.at hsh ha
    refine va_zast hx hb hK hP hD hSS q 1 he rfl (n_in hin2) (cd1 hμ hcd (by simp [lenI])) (fun H1 locs1 q1 q2 q3 => K1 (w' := (w.1, w.2)) hst' q1 q2 q3 (hwr.put hsh he (fun _ _ => rfl) (fun z hz => up2_o hz) ⟨_, rfl, ?_⟩) hs')
    rw [vnar_z (z_of hb01)]
    exact cr_st hf x y
  case lastore =>
    obtain ⟨y, st1, vs1, rfl, rfl, hs1, hst'⟩ := j1_sv hst hsv
    obtain ⟨x, st2, vs2, rfl, rfl, hs2, hst'⟩ := i1_sv hst' hs1
    obtain ⟨q, a, st', vs', rfl, rfl, ha, hs', hst'⟩ := r1_sv hst' hs2
    obtain ⟨n, hsh, hin2, hst'⟩ := alen_i hst'
    obtain ⟨e0, he, f, rfl, hf⟩ := hwr.at hsh ha
    exact va_last hx hb hK hP hD hSS q 2 he rfl (n_in hin2) (cd1 hμ hcd (by simp [lenI])) (fun H1 locs1 q1 q2 q3 => K1 (w' := (w.1, w.2)) hst' q1 q2 q3 (hwr.put hsh he (fun _ _ => rfl) (fun z hz => up2_o hz) ⟨_, rfl, cr_stL hf x y⟩) hs')
  case arraylength =>
    have hst' : aln S pc L st k w h (fun pc L st k w h => SND l S d μ pc L st k w h Q) := hst
    unfold aln at hst'
    split at hst'
    · rename_i q st3
      obtain ⟨xr, vs', rfl, ⟨a, ha, rfl⟩, hs'⟩ := sv_c hsv
      split at hst'
      · rename_i u n hsh
        obtain ⟨⟨hu, hn⟩, hst'⟩ := hst'
        obtain ⟨e0, he, hcr⟩ := hwr.at hsh ha
        match u, hu, hcr with
        | 0, _, hcr =>
          obtain ⟨f, rfl, -⟩ := hcr
          exact va_alen hx hb hK hP q 0 he rfl rfl (cd1 hμ hcd (by simp [lenI])) (K0 hst' ⟨⟨_, rfl, n_nat hn⟩, hs'⟩ hlr hL)
        | 1, _, hcr =>
          obtain ⟨f, rfl, -⟩ := hcr
          exact va_alen hx hb hK hP q 1 he rfl rfl (cd1 hμ hcd (by simp [lenI])) (K0 hst' ⟨⟨_, rfl, n_nat hn⟩, hs'⟩ hlr hL)
        | 2, _, hcr =>
          obtain ⟨f, rfl, -⟩ := hcr
          exact va_alen hx hb hK hP q 2 he rfl rfl (cd1 hμ hcd (by simp [lenI])) (K0 hst' ⟨⟨_, rfl, n_nat hn⟩, hs'⟩ hlr hL)
      · exact hst'.elim
    · rename_i u st3
      obtain ⟨xr, vs', rfl, hxr, hs'⟩ := sv_c hsv
      have hxr' : xr = .ref b := hxr
      subst hxr'
      rcases hsc with hsc | ⟨n, xs, hsn, hX, hbl, hbA, hxs⟩
      · rw [hsc] at hst'; exact hst'.elim
      · rw [hsn] at hst'
        exact va_slen hx hb hX hbl hbA hSS (cd1 hμ hcd (by simp [lenI])) (K0 hst'.2 ⟨⟨_, rfl, n_nat hst'.1⟩, hs'⟩ hlr hL)
    · exact hst'.elim
  case newarray t =>
    have G : ∀ (t : Nat) (q0 : Nat) (at0 : Jvm.ClassFile.ArrayType) (ty : FieldType) (cc0 : ClassId) (a0 : Nat → vp_A), newarray.typeOf at0 = ty → Cond.arrayClass ty ∈ ALLW → cdA μ pc = some (.newarray at0) → (∀ n, ∀ cA : ClassId, vp_cell cA (a0 n) = arrV cA n (fun _ => defaultValue ty)) → componentBytes ty ≤ 8 → (∀ cA, va_RA s cA ty → cA = cc0) → (∀ (n a : Nat), cr cI cZ cL (ads ++ [a]) (fun _ => 0) (fun _ => 0) (.inr (t, n)) (.inl (cc0, a0 n))) → mkA μ t pc L st k w h (fun pc L st k w h => SND l S d μ pc L st k w h Q) → W p l e R s m args below meth c H locs k.1 k.2 Qm (F0 m pc ls vs) := by
      intro t q0 at0 ty cc0 a0 hty hw hcd ha hcb huniq hcr hst'
      obtain ⟨x, st2, vs2, rfl, rfl, hs2, ⟨hn0, hn1⟩, hgd, hst'⟩ := i1_sv hst' hsv
      simp only [Bool.and_eq_true] at hgd
      have g1 := Nat.le_of_ble_eq_true hgd.1
      have g2 := Nat.le_of_ble_eq_true hgd.2
      subst hty
      refine va_newa (atype := at0) hx hb (hts _ hw) rfl hK hP hD hSS hA (a0 := a0 x.toInt.toNat) (ha _) (n_nn hn0) (n_cl x) ?_ (by omega) (by omega) (cd1 hμ hcd (by simp [lenI])) (fun q cA H1 hK1 hP1 hD1 hS1 => ?_)
      · have : x.toInt.toNat ≤ 60000000 := by omega
        calc x.toInt.toNat * componentBytes (newarray.typeOf at0) ≤ 60000000 * 8 := Nat.mul_le_mul this hcb
          _ ≤ 536870912 := by decide
      · have e1 : cA = cc0 := huniq cA (hK1.2 3 (cA, newarray.typeOf at0) rfl).2
        subst e1
        refine K2 (t := [q]) hst' hP1 hD1 hS1 (hwr.app (hcr _ q)) ⟨⟨q, ?_, rfl⟩, hs2.mono⟩ ⟨g1, g2⟩
        have hla : ads.length = w.1.length := by rw [← hwr.1, List.length_map]; exact hwr.2.1
        rw [← hla]; simp
    cases t
    case int => exact G 0 0 .int .int cI (fun n => (n, .inl (fun _ => 0))) rfl (allw_of oth_ok.2.1 rfl) hcd (fun _ _ => rfl) (by decide) (fun cA hR => Option.some.inj (hR.symm.trans (hK.2 0 (cI, .int) rfl).2)) (fun n a => ⟨_, rfl, fun _ _ => rfl⟩) hst
    case boolean => exact G 1 1 .boolean .boolean cZ (fun n => (n, .inl (fun _ => 0))) rfl (allw_of oth_ok.2.2.2 rfl) hcd (fun _ _ => rfl) (by decide) (fun cA hR => Option.some.inj (hR.symm.trans (hK.2 1 (cZ, .boolean) rfl).2)) (fun n a => ⟨_, rfl, fun _ _ => rfl⟩) hst
    case long => exact G 2 2 .long .long cL (fun n => (n, .inr (.inl (fun _ => 0)))) rfl (allw_of oth_ok.2.2.1 rfl) hcd (fun _ _ => rfl) (by decide) (fun cA hR => Option.some.inj (hR.symm.trans (hK.2 2 (cL, .long) rfl).2)) (fun n a => ⟨_, rfl, fun _ _ => rfl⟩) hst
    all_goals exact False.elim hst
  case new j =>
    have hst' : mkO μ j pc L st k w h (fun pc L st k w h => SND l S d μ pc L st k w h Q) := hst
    unfold mkO at hst'
    split at hst'
    · exact hst'.elim
    rename_i ci hn
    obtain ⟨hgd, hst'⟩ := hst'
    simp only [Bool.and_eq_true] at hgd
    have g1 := Nat.le_of_ble_eq_true hgd.1
    have g2 := Nat.le_of_ble_eq_true hgd.2
    obtain ⟨hl1, hci⟩ := newR_ok hn
    have hco := cls_ok ci hci
    refine va_new (fs := (List.range (clT ci).2.2).map (fun z => defaultValue ((tyA.getD ci (fun _ => .int)) z))) hx hb hts (lay_in hci) (tyA.getD ci (fun _ => .int)) (fun z hz => (fty_ok ci hci z hz).1) hown (hts _ hl1) (hts _ (allw_of hco.2.1 rfl)) (hts _ (allw_of hco.1 rfl)) hK hP hD hSS hA (cls_at hci) (fun z hz => ?_) (by omega) (by omega) (cd1 hμ hcd (by simp [lenI])) (fun q H1 hP1 hD1 hS1 => ?_)
    · have e9 : ((List.range (clT ci).2.2).map (fun z => defaultValue ((tyA.getD ci (fun _ => .int)) z)))[z]? = some (defaultValue ((tyA.getD ci (fun _ => .int)) z)) := by rw [List.getElem?_map, List.getElem?_range hz]; rfl
      unfold vp_V
      generalize (List.range (clT ci).2.2).map (fun z => defaultValue ((tyA.getD ci (fun _ => .int)) z)) = lz at e9
      rw [List.getD_eq_getElem?_getD (l := lz), e9]; rfl
    · refine K2 (t := [q]) hst' hP1 hD1 hS1 (hwr.app ⟨_, rfl, cls_at hci, by simp, fun z v hz => ?_⟩) ⟨⟨q, ?_, rfl⟩, hsv.mono⟩ ⟨g1, g2⟩
      · have hzl : z < (clT ci).2.2 := by have := (List.getElem?_eq_some_iff.mp hz).1; simpa using this
        rw [List.getElem?_map, List.getElem?_range hzl] at hz
        cases hz
        exact fvr_def (fcl_ok ci hci z hzl)
      · have hla : ads.length = w.1.length := by rw [← hwr.1, List.length_map]; exact hwr.2.1
        rw [← hla]; simp
  case ireturn =>
    unfold stp at hst; dsimp only at hst; split at hst
    · obtain ⟨x, vs', rfl, ⟨y, rfl, rfl⟩, hs'⟩ := sv_c hsv
      rw [sv_n hs']
      exact hend pc ls _ _ w h H locs k [] ws hst.2 (Or.inl ⟨y, rfl, rfl, cd1 hμ hcd (by simp [lenI]), hst.1.imp id (fun q => ⟨q.1, z_of q.2⟩)⟩) hP hD hSS (by rw [List.append_nil]; exact hwr) hk.1 hk.2
    · exact hst.elim
  case lreturn =>
    unfold stp at hst; dsimp only at hst; split at hst
    · obtain ⟨x, vs', rfl, ⟨y, rfl, rfl⟩, hs'⟩ := sv_c hsv
      rw [sv_n hs']
      exact hend pc ls _ _ w h H locs k [] ws hst.2 (Or.inr (Or.inl ⟨y, rfl, rfl, cd1 hμ hcd (by simp [lenI]), hst.1⟩)) hP hD hSS (by rw [List.append_nil]; exact hwr) hk.1 hk.2
    · exact hst.elim
  case return_ =>
    unfold stp at hst; dsimp only at hst; split at hst
    · rw [sv_n hsv]
      exact hend pc ls _ _ w h H locs k [] ws hst.2 (Or.inr (Or.inr ⟨rfl, rfl, cd1 hμ hcd (by simp [lenI]), hst.1⟩)) hP hD hSS (by rw [List.append_nil]; exact hwr) hk.1 hk.2
    · exact hst.elim
  case invokevirtual j =>
    unfold stp at hst; dsimp only at hst; split at hst
    · rename_i ν hm
      obtain ⟨hnn, hst⟩ := hst
      have hst' : ivR μ ν pc L st k w h (fun pc L st k w h => SND l S d μ pc L st k w h Q) (clF (SND l) d) := hst
      unfold ivR at hst'
      obtain ⟨t1, t2, t3⟩ := sv_take (mA ν) hsv
      obtain ⟨q, a, rest, vrest, e1, e2, ha, hs', hsh, hgd, hcl⟩ := r1_sv hst' t2
      simp only [gdC, Bool.and_eq_true] at hgd
      obtain ⟨⟨⟨⟨g1, g2⟩, g3⟩, g4⟩, g5⟩ := hgd
      have n1 := Nat.le_of_ble_eq_true g1
      have n4 := Nat.le_of_ble_eq_true g4
      have n5 := Nat.le_of_ble_eq_true g5
      have hms : mS ν = false := by simpa using g2
      obtain ⟨hlk, hlt⟩ := mthR_ok hm (by omega)
      have hν : ν < 227 := by omega
      cases d with
      | zero => exact hcl.elim
      | succ d' =>
        obtain ⟨hio, hS⟩ := hcl
        have hv : sv b ads (.inr (.inr (.inl q)) :: (st.take (mA ν)).reverse) (.ref a :: (vs.take (mA ν)).reverse) := ⟨⟨a, ha, rfl⟩, sv_rev t1⟩
        have hM := met_of hS hν hio dC dI H.size hv hwr
        have hst2 : vs = ((vs.take (mA ν)).reverse).reverse ++ .ref a :: vrest := by rw [List.reverse_reverse, ← e2, List.take_append_drop]
        have hAl : ((vs.take (mA ν)).reverse).length = mA ν := by rw [List.length_reverse, List.length_take]; omega
        have hmo := met_ok ν hν
        have hcw := allw_of (met_code hν) rfl
        have hini := hts _ (allw_of (met_ini ν hν) rfl)
        have hist : (Cond.instanceMethod (mY ν)).before args s = true := by
          have h9 := met_ist ν hν
          rw [hms] at h9
          exact hts _ (allw_of h9 rfl)
        have hsel := hts _ (allw_ofL (met_sel ν hν hms hnn) rfl)
        obtain ⟨hc13, hcn⟩ := met_cls ν hν hms
        obtain ⟨e0, he, fs, rfl, hcl, -, -⟩ := hwr.at hsh ha
        have hrec := va_recv hK hP (cls_at hc13) he
        rw [hcn] at hrec
        have hR : (rmO d' ν).frames + 1 ≤ R.frames ∧ 8 + (mL ν + 11) + (rmO d' ν).locals ≤ R.locals := ⟨by show d' + 1 + 1 ≤ _; omega, by show 8 + (mL ν + 11) + 64 * (d' + 1) ≤ _; have := hmo.2.1; omega⟩
        have hdd : (mY ν).cls ≠ "java/lang/invoke/MethodHandle" ∧ (mY ν).cls ≠ "java/lang/invoke/VarHandle" ∧ (parseMethodDescriptor (mY ν).desc).map (fun d => d.parameters.length) = some (mA ν) := hmo.1.2.2
        have hdc := cd1 hμ hcd (by simp [lenI])
        rcases hlk with hl | ⟨hl, -⟩
        · exact CG (va_runV ⟨hx, hb, hml, hown, hts⟩ hM ⟨callB_of (mA ν) hts (allw_g hcw) rfl rfl rfl hini (hts _ hl) hdd hR, hist, hsel⟩ ⟨hblind, hrec, fun U hU hW => hpre U hU hW⟩ rfl hAl hsz hst2 (lv_room (sv_c8 hs' g3)) hdc ⟨by omega, by omega⟩) hs' n4 n5
        · exact CG (va_runVN ⟨hx, hb, hml, hown, hts⟩ hM ⟨va_cnB (mA ν) hts (allw_g hcw) rfl rfl rfl (hN _ hl) hini hdd hR, hist, hsel⟩ ⟨hblind, hrec, fun U hU hW => hpre U hU hW⟩ rfl hAl hsz hst2 (lv_room (sv_c8 hs' g3)) hdc ⟨by omega, by omega⟩) hs' n4 n5
    · exact hst.elim
  case invokespecial j =>
    unfold stp at hst; dsimp only at hst; split at hst
    · rename_i ν hm
      obtain ⟨hnn, hst⟩ := hst
      have hst' : ivR μ ν pc L st k w h (fun pc L st k w h => SND l S d μ pc L st k w h Q) (clF (SND l) d) := hst
      unfold ivR at hst'
      obtain ⟨t1, t2, t3⟩ := sv_take (mA ν) hsv
      obtain ⟨q, a, rest, vrest, e1, e2, ha, hs', hsh, hgd, hcl⟩ := r1_sv hst' t2
      simp only [gdC, Bool.and_eq_true] at hgd
      obtain ⟨⟨⟨⟨g1, g2⟩, g3⟩, g4⟩, g5⟩ := hgd
      have n1 := Nat.le_of_ble_eq_true g1
      have n4 := Nat.le_of_ble_eq_true g4
      have n5 := Nat.le_of_ble_eq_true g5
      have hms : mS ν = false := by simpa using g2
      obtain ⟨hlk, hlt⟩ := mthR_ok hm (by omega)
      have hν : ν < 227 := by omega
      cases d with
      | zero => exact hcl.elim
      | succ d' =>
        obtain ⟨hio, hS⟩ := hcl
        have hv : sv b ads (.inr (.inr (.inl q)) :: (st.take (mA ν)).reverse) (.ref a :: (vs.take (mA ν)).reverse) := ⟨⟨a, ha, rfl⟩, sv_rev t1⟩
        have hM := met_of hS hν hio dC dI H.size hv hwr
        have hst2 : vs = ((vs.take (mA ν)).reverse).reverse ++ .ref a :: vrest := by rw [List.reverse_reverse, ← e2, List.take_append_drop]
        have hAl : ((vs.take (mA ν)).reverse).length = mA ν := by rw [List.length_reverse, List.length_take]; omega
        have hmo := met_ok ν hν
        have hcw := allw_of (met_code hν) rfl
        have hr0 := (met_init ν hν hnn).1
        rw [hr0] at hM hcw
        have hini := hts _ (allw_of (met_ini ν hν) rfl)
        have hist : (Cond.instanceMethod (mY ν)).before args s = true := by
          have h9 := met_ist ν hν
          rw [hms] at h9
          exact hts _ (allw_of h9 rfl)
        have hR : (rmO d' ν).frames + 1 ≤ R.frames ∧ 8 + (mL ν + 11) + (rmO d' ν).locals ≤ R.locals := ⟨by show d' + 1 + 1 ≤ _; omega, by show 8 + (mL ν + 11) + 64 * (d' + 1) ≤ _; have := hmo.2.1; omega⟩
        have hdd : (mY ν).cls ≠ "java/lang/invoke/MethodHandle" ∧ (mY ν).cls ≠ "java/lang/invoke/VarHandle" ∧ (parseMethodDescriptor (mY ν).desc).map (fun d => d.parameters.length) = some (mA ν) := hmo.1.2.2
        have hdc := cd1 hμ hcd (by simp [lenI])
        rcases hlk with hl | ⟨hl, -⟩
        · exact CG (va_runI ⟨hx, hb, hml, hown, hts⟩ hM ⟨callB_of (mA ν) hts (allw_g hcw) rfl rfl rfl hini (hts _ hl) hdd hR, hnn, hist⟩ ⟨hblind, fun U hU hW => hpre U hU hW⟩ rfl hAl hsz hst2 (lv_room (sv_c8 hs' g3)) hdc ⟨by omega, by omega⟩) hs' n4 n5
        · exact CG (va_runIN ⟨hx, hb, hml, hown, hts⟩ hM ⟨va_cnB (mA ν) hts (allw_g hcw) rfl rfl rfl (hN _ hl) hini hdd hR, hnn, hist⟩ ⟨hblind, fun U hU hW => hpre U hU hW⟩ rfl hAl hsz hst2 (lv_room (sv_c8 hs' g3)) hdc ⟨by omega, by omega⟩) hs' n4 n5
    · rename_i hm
      obtain ⟨q, a, rest, vrest, rfl, rfl, ha, hs', h8, hst'⟩ := r1_sv hst hsv
      obtain ⟨hlk, hlt⟩ := mthR_ok hm (by omega)
      rcases hlk with hl | ⟨-, hl⟩
      · have hro := sv_c8 hs' h8
        have hmr := lv_room (m := m) (pc := pc) (ls := ls) (rest := vrest) hro
        exact W.objInit hx hb hown (hts _ hl) (hts _ (allw_of oth_ok.1.1 rfl)) (hts _ (allw_of oth_ok.1.2.1 rfl)) rfl (by rw [hml]; exact hsz) rfl (cd1 hμ hcd (by simp [lenI])) (by omega) (by have hmr2 : 2 * (F0 m pc ls (Value.ref a :: vrest)).monitorRoom + (vrest.map fun v => v.category).sum ≤ 8 := hmr; omega) (K0 hst' hs' hlr hL)
      · omega
    · exact hst.elim
  case invokestatic j =>
    unfold stp at hst; dsimp only at hst; split at hst
    · rename_i ν hm
      have hst' : ivS μ ν pc L st k w h (fun pc L st k w h => SND l S d μ pc L st k w h Q) (clF (SND l) d) := hst
      obtain ⟨hgd, hcl⟩ := hst'
      obtain ⟨t1, hs', t3⟩ := sv_take (mA ν) hsv
      simp only [gdC, Bool.and_eq_true] at hgd
      obtain ⟨⟨⟨⟨g1, g2⟩, g3⟩, g4⟩, g5⟩ := hgd
      have n1 := Nat.le_of_ble_eq_true g1
      have n4 := Nat.le_of_ble_eq_true g4
      have n5 := Nat.le_of_ble_eq_true g5
      have hms : mS ν = true := by simpa using g2
      obtain ⟨hlk, hlt⟩ := mthR_ok hm (by omega)
      have hν : ν < 227 := by omega
      cases d with
      | zero => exact hcl.elim
      | succ d' =>
        obtain ⟨hio, hS⟩ := hcl
        have hv : sv b ads ((st.take (mA ν)).reverse) ((vs.take (mA ν)).reverse) := sv_rev t1
        have hM := met_of hS hν hio dC dI H.size hv hwr
        have hst2 : vs = ((vs.take (mA ν)).reverse).reverse ++ vs.drop (mA ν) := by rw [List.reverse_reverse, List.take_append_drop]
        have hAl : ((vs.take (mA ν)).reverse).length = mA ν := by rw [List.length_reverse, List.length_take]; omega
        have hmo := met_ok ν hν
        have hcw := allw_of (met_code hν) rfl
        have hini := hts _ (allw_of (met_ini ν hν) rfl)
        have hist : (Cond.static (mY ν)).before args s = true := by
          have h9 := met_ist ν hν
          rw [hms] at h9
          exact hts _ (allw_of h9 rfl)
        have hR : (rmO d' ν).frames + 1 ≤ R.frames ∧ 8 + (mL ν + 11) + (rmO d' ν).locals ≤ R.locals := ⟨by show d' + 1 + 1 ≤ _; omega, by show 8 + (mL ν + 11) + 64 * (d' + 1) ≤ _; have := hmo.2.1; omega⟩
        have hdd : (mY ν).cls ≠ "java/lang/invoke/MethodHandle" ∧ (mY ν).cls ≠ "java/lang/invoke/VarHandle" ∧ (parseMethodDescriptor (mY ν).desc).map (fun d => d.parameters.length) = some (mA ν) := hmo.1.2.2
        have hdc := cd1 hμ hcd (by simp [lenI])
        rcases hlk with hl | ⟨hl, -⟩
        · exact CG (va_runS ⟨hx, hb, hml, hown, hts⟩ hM ⟨callB_of (mA ν) hts (allw_g hcw) rfl rfl rfl hini (hts _ hl) hdd hR, hist⟩ ⟨hblind, fun U hU hW => hpre U hU hW⟩ rfl hAl hsz hst2 (lv_room (sv_c8 hs' g3)) hdc ⟨by omega, by omega⟩) hs' n4 n5
        · exact CG (va_runSN ⟨hx, hb, hml, hown, hts⟩ hM ⟨va_cnB (mA ν) hts (allw_g hcw) rfl rfl rfl (hN _ hl) hini hdd hR, hist, trivial⟩ ⟨hblind, fun U hU hW => hpre U hU hW⟩ rfl hAl hsz hst2 (lv_room (sv_c8 hs' g3)) hdc ⟨by omega, by omega⟩) hs' n4 n5
    · rename_i hm
      obtain ⟨hlk, hlt⟩ := mthR_ok hm (by omega)
      rcases hlk with hl | ⟨-, hl⟩
      · have hst' : acp pc L st k w h (fun pc L st k w h => SND l S d μ pc L st k w h Q) := hst
        unfold acp at hst'
        split at hst'
        · rename_i n dp q sp p0 rest
          obtain ⟨x1, v1, rfl, ⟨nn, rfl, rfl⟩, z1⟩ := sv_c hsv
          obtain ⟨x2, v2, rfl, ⟨dd, rfl, rfl⟩, z2⟩ := sv_c z1
          obtain ⟨x3, v3, rfl, ⟨aq, haq, rfl⟩, z3⟩ := sv_c z2
          obtain ⟨x4, v4, rfl, ⟨ss, rfl, rfl⟩, z4⟩ := sv_c z3
          obtain ⟨x5, v5, rfl, ⟨ap, hap, rfl⟩, z5⟩ := sv_c z4
          obtain ⟨n0, hsp, hst'⟩ := alen_i hst'
          obtain ⟨n9, hsq, ⟨b1, b2, b3, b4, b5⟩, h8, hst'⟩ := alen_i hst'
          obtain ⟨e0, he0, f, rfl, hf⟩ := hwr.at hsp hap
          obtain ⟨e9, he9, g, rfl, hg⟩ := hwr.at hsq haq
          have hw8 := sv_c8 z5 h8
          have hnf : nativeFrameWords "java/lang/System" "arraycopy" 5 ≤ 20 := by decide +kernel
          refine va_copyi hx hb (by rw [hml]; exact hsz.symm) hown (hts _ hl) (hts _ (allw_of oth_ok.1.2.2.2.1 rfl)) (hts _ (allw_of oth_ok.1.2.2.1 rfl)) (hts _ (allw_of oth_ok.1.2.2.2.2 rfl)) hK hP hD hSS p0 q 0 0 he0 he9 rfl rfl rfl (n_nn b1) (n_nn b2) (n_nn b3) (by rw [n_cl, n_cl]; omega) (by rw [n_cl, n_cl]; omega) (fun _ _ => rfl) (by omega) (by omega) (cd1 hμ hcd (by simp [lenI])) (fun H1 locs1 q1 q2 q3 => K1 (w' := (w.1, w.2)) hst' q1 q2 q3 (hwr.put hsq he9 (fun _ _ => rfl) (fun z hz => ?_) ⟨_, rfl, fun i hi => ?_⟩) z5)
          · funext i; simp [cpy, hz]
          · unfold va_cpy cpy
            rw [n_cl, n_cl, n_cl]
            by_cases hc : dd.toInt.toNat ≤ i ∧ i < dd.toInt.toNat + nn.toInt.toNat
            · rw [if_pos hc, if_pos ⟨rfl, hc⟩]; exact hf _ (by omega)
            · rw [if_neg hc, if_neg (fun z => hc z.2)]; exact hg i hi
        · exact hst'.elim
      · omega
    · exact hst.elim
  all_goals exact False.elim hst
theorem SND_of {l : Launch} {S : SC} {d μ pc : Nat} {L : LSt} {st : List PV} {k : Nat × Nat} {w : WD} {h : HP} {Q : KK} (H : WP S d μ pc L st k w h Q) : SND l S d μ pc L st k w h Q := H (SND l) (SND_qm l) (SND_pfx l)
