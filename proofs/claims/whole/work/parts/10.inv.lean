/-! what an instruction's hypothesis says of the machine's stack and locals -/
section INV
variable {b : Nat} {ads : List Nat} {st : List PV} {vs : List Value} {L : LSt} {ls : Array Slot}
theorem sv_c {v : PV} (h : sv b ads (v :: st) vs) : ∃ x vs', vs = x :: vs' ∧ rv b ads v x ∧ sv b ads st vs' := by
  cases vs with
  | nil => exact h.elim
  | cons x xs => exact ⟨x, xs, rfl, h.1, h.2⟩
theorem sv_n (h : sv b ads [] vs) : vs = [] := by
  cases vs with
  | nil => rfl
  | cons x xs => exact h.elim
theorem i1_sv {f : Int → List PV → Prop} (h : i1 st f) (hs : sv b ads st vs) : ∃ (x : Int32) (st' : List PV) (vs' : List Value), st = .inl x.toInt :: st' ∧ vs = .int x :: vs' ∧ sv b ads st' vs' ∧ f x.toInt st' := by
  unfold i1 at h
  split at h
  · obtain ⟨x, xs, rfl, ⟨y, rfl, hy⟩, hs'⟩ := sv_c hs
    subst hy
    exact ⟨y, _, _, rfl, rfl, hs', h⟩
  · exact h.elim
theorem j1_sv {f : Int → List PV → Prop} (h : j1 st f) (hs : sv b ads st vs) : ∃ (x : Int64) (st' : List PV) (vs' : List Value), st = .inr (.inl x.toInt) :: st' ∧ vs = .long x :: vs' ∧ sv b ads st' vs' ∧ f x.toInt st' := by
  unfold j1 at h
  split at h
  · obtain ⟨x, xs, rfl, ⟨y, rfl, hy⟩, hs'⟩ := sv_c hs
    subst hy
    exact ⟨y, _, _, rfl, rfl, hs', h⟩
  · exact h.elim
theorem i2_sv {f : Int → Int → List PV → Prop} (h : i2 st f) (hs : sv b ads st vs) : ∃ (x y : Int32) (st' : List PV) (vs' : List Value), st = .inl y.toInt :: .inl x.toInt :: st' ∧ vs = .int y :: .int x :: vs' ∧ sv b ads st' vs' ∧ f x.toInt y.toInt st' := by
  unfold i2 at h
  split at h
  · obtain ⟨x, xs, rfl, ⟨y, rfl, hy⟩, hs'⟩ := sv_c hs
    obtain ⟨x2, xs2, rfl, ⟨y2, rfl, hy2⟩, hs2⟩ := sv_c hs'
    subst hy; subst hy2
    exact ⟨y2, y, _, _, rfl, rfl, hs2, h⟩
  · exact h.elim
theorem j2_sv {f : Int → Int → List PV → Prop} (h : j2 st f) (hs : sv b ads st vs) : ∃ (x y : Int64) (st' : List PV) (vs' : List Value), st = .inr (.inl y.toInt) :: .inr (.inl x.toInt) :: st' ∧ vs = .long y :: .long x :: vs' ∧ sv b ads st' vs' ∧ f x.toInt y.toInt st' := by
  unfold j2 at h
  split at h
  · obtain ⟨x, xs, rfl, ⟨y, rfl, hy⟩, hs'⟩ := sv_c hs
    obtain ⟨x2, xs2, rfl, ⟨y2, rfl, hy2⟩, hs2⟩ := sv_c hs'
    subst hy; subst hy2
    exact ⟨y2, y, _, _, rfl, rfl, hs2, h⟩
  · exact h.elim
theorem ji_sv {f : Int → Int → List PV → Prop} (h : ji st f) (hs : sv b ads st vs) : ∃ (x : Int64) (y : Int32) (st' : List PV) (vs' : List Value), st = .inl y.toInt :: .inr (.inl x.toInt) :: st' ∧ vs = .int y :: .long x :: vs' ∧ sv b ads st' vs' ∧ f x.toInt y.toInt st' := by
  unfold ji at h
  split at h
  · obtain ⟨x, xs, rfl, ⟨y, rfl, hy⟩, hs'⟩ := sv_c hs
    obtain ⟨x2, xs2, rfl, ⟨y2, rfl, hy2⟩, hs2⟩ := sv_c hs'
    subst hy; subst hy2
    exact ⟨y2, y, _, _, rfl, rfl, hs2, h⟩
  · exact h.elim
theorem r1_sv {f : Nat → List PV → Prop} (h : r1 st f) (hs : sv b ads st vs) : ∃ (p a : Nat) (st' : List PV) (vs' : List Value), st = .inr (.inr (.inl p)) :: st' ∧ vs = .ref a :: vs' ∧ ads[p]? = some a ∧ sv b ads st' vs' ∧ f p st' := by
  unfold r1 at h
  split at h
  · obtain ⟨x, xs, rfl, ⟨y, hy, rfl⟩, hs'⟩ := sv_c hs
    exact ⟨_, y, _, _, rfl, rfl, hy, hs', h⟩
  · exact h.elim
theorem rv_ref {v : Nat ⊕ Unit} {x : Value} (h : rv b ads (.inr (.inr v)) x) : ∃ a, x = .ref a := by
  cases v with
  | inl p => obtain ⟨a, -, h2⟩ := h; exact ⟨a, h2⟩
  | inr u => exact ⟨b, h⟩
theorem a1_sv {f : PV → List PV → Prop} (h : a1 st f) (hs : sv b ads st vs) : ∃ (v : PV) (a : Nat) (st' : List PV) (vs' : List Value), st = v :: st' ∧ vs = .ref a :: vs' ∧ rv b ads v (.ref a) ∧ sv b ads st' vs' ∧ f v st' := by
  unfold a1 at h
  split at h
  · obtain ⟨x, xs, rfl, hr, hs'⟩ := sv_c hs
    obtain ⟨a, rfl⟩ := rv_ref hr
    exact ⟨_, a, _, _, rfl, rfl, hr, hs', h⟩
  · exact h.elim
theorem ldI_lr {j : Nat} {f : Int → Prop} (h : ldI L j f) (hl : lr b ads L ls) : ∃ y : Int32, ls[j]? = some (.val (.int y)) ∧ L[j]? = some (some (.inl y.toInt)) ∧ f y.toInt := by
  unfold ldI at h
  split at h
  · rename_i e
    obtain ⟨x, h1, y, rfl, hy⟩ := hl.2.2 _ _ e
    subst hy
    exact ⟨y, h1, e, h⟩
  · exact h.elim
theorem ldJ_lr {j : Nat} {f : Int → Prop} (h : ldJ L j f) (hl : lr b ads L ls) : ∃ y : Int64, ls[j]? = some (.val (.long y)) ∧ f y.toInt := by
  unfold ldJ at h
  split at h
  · rename_i e
    obtain ⟨x, h1, y, rfl, hy⟩ := hl.2.2 _ _ e
    subst hy
    exact ⟨y, h1, h⟩
  · exact h.elim
theorem ldA_lr {j : Nat} {f : PV → Prop} (h : ldA L j f) (hl : lr b ads L ls) : ∃ (a : Nat) (v : PV), ls[j]? = some (.val (.ref a)) ∧ rv b ads v (.ref a) ∧ f v := by
  unfold ldA at h
  split at h
  · rename_i e
    obtain ⟨x, h1, h2⟩ := hl.2.2 _ _ e
    obtain ⟨a, rfl⟩ := rv_ref h2
    exact ⟨a, _, h1, h2, h⟩
  · exact h.elim
def allv (ls : Array Slot) : List (Nat × Value) := (List.range ls.size).filterMap (fun i => match (ls[i]? : Option Slot) with
  | some (Slot.val v) => some (i, v)
  | _ => none)
theorem allv_mem {i : Nat} {x : Value} (h : ls[i]? = some (.val x)) : (i, x) ∈ allv ls := by
  unfold allv
  refine List.mem_filterMap.mpr ⟨i, List.mem_range.mpr (Array.getElem?_eq_some_iff.mp h).1, ?_⟩
  rw [h]
theorem allv_has (hw : lv_wf ls) : lv_has ls ls.size (allv ls) := by
  refine ⟨rfl, hw, fun q hq => ?_⟩
  unfold allv at hq
  obtain ⟨i, -, h⟩ := List.mem_filterMap.mp hq
  split at h
  · rename_i v e
    cases h
    exact e
  · cases h
theorem lr_set {ls' : Array Slot} {lv : List (Nat × Value)} {j : Nat} {v : PV} {x : Value} (hl : lr b ads L ls) (hj : noJ L j = true) (hv : rv b ads v x) (hlv : ∀ i x', ls[i]? = some (.val x') → i ≠ j → ¬ (i + 1 = j ∧ x'.category = 2) → (i, x') ∈ lv) (h : lv_has ls' ls.size ((j, x) :: lv)) : lr b ads (L.set j (some v)) ls' := by
  refine ⟨by rw [List.length_set, h.1]; exact hl.1, h.2.1, fun i v' hi => ?_⟩
  rw [List.getElem?_set] at hi
  by_cases hij : j = i
  · subst hij
    simp only [if_true] at hi
    split at hi
    · cases hi
      exact ⟨x, h.2.2 (j, x) List.mem_cons_self, hv⟩
    · cases hi
  · rw [if_neg hij] at hi
    obtain ⟨x', h1, h2⟩ := hl.2.2 i v' hi
    refine ⟨x', h.2.2 (i, x') (List.mem_cons_of_mem _ (hlv i x' h1 (Ne.symm hij) ?_)), h2⟩
    rintro ⟨rfl, hc⟩
    unfold noJ at hj
    dsimp only at hj
    rw [hi] at hj
    match v', h2, hj with
    | .inl a, h2, _ => obtain ⟨y, rfl, -⟩ := h2; cases hc
    | .inr (.inr w), h2, _ => obtain ⟨y, rfl⟩ := rv_ref h2; cases hc
    | .inr (.inl a), _, hj => cases hj
theorem allv_filter {j : Nat} : ∀ i x', ls[i]? = some (.val x') → i ≠ j → ¬ (i + 1 = j ∧ x'.category = 2) → (i, x') ∈ (allv ls).filter (fun q => !(q.1 == j) && !(q.1 + 1 == j && q.2.category == 2)) := by
  intro i x' h1 h2 h3
  refine List.mem_filter.mpr ⟨allv_mem h1, ?_⟩
  simp only [Bool.and_eq_true, Bool.not_eq_true', beq_eq_false_iff_ne, ne_eq, Bool.and_eq_false_iff]
  refine ⟨h2, ?_⟩
  by_cases q : i + 1 = j
  · exact Or.inr (fun z => h3 ⟨q, z⟩)
  · exact Or.inl q
theorem sv_take (n : Nat) : ∀ {st : List PV} {vs : List Value}, sv b ads st vs → sv b ads (st.take n) (vs.take n) ∧ sv b ads (st.drop n) (vs.drop n) ∧ st.length = vs.length := by
  induction n with
  | zero =>
    intro st vs h
    refine ⟨trivial, h, ?_⟩
    induction st generalizing vs with
    | nil => rw [sv_n h]; rfl
    | cons v st ih => obtain ⟨x, xs, rfl, -, h2⟩ := sv_c h; simp [ih h2]
  | succ n ih =>
    intro st vs h
    cases st with
    | nil => rw [sv_n h]; exact ⟨trivial, trivial, rfl⟩
    | cons v st =>
      obtain ⟨x, xs, rfl, h1, h2⟩ := sv_c h
      obtain ⟨g1, g2, g3⟩ := ih h2
      exact ⟨⟨h1, g1⟩, g2, by simp [g3]⟩
theorem sv_app : ∀ {s1 s2 : List PV} {v1 v2 : List Value}, sv b ads s1 v1 → sv b ads s2 v2 → sv b ads (s1 ++ s2) (v1 ++ v2)
  | [], _, v1, _, h1, h2 => by rw [sv_n h1]; exact h2
  | _ :: _, _, v1, _, h1, h2 => by
    obtain ⟨x, xs, rfl, g1, g2⟩ := sv_c h1
    exact ⟨g1, sv_app g2 h2⟩
theorem sv_rev : ∀ {s1 : List PV} {v1 : List Value}, sv b ads s1 v1 → sv b ads s1.reverse v1.reverse
  | [], v1, h1 => by rw [sv_n h1]; exact trivial
  | v :: s, v1, h1 => by
    obtain ⟨x, xs, rfl, g1, g2⟩ := sv_c h1
    rw [List.reverse_cons, List.reverse_cons]
    exact sv_app (sv_rev g2) ⟨g1, trivial⟩
theorem rv_cat {v : PV} {x : Value} (h : rv b ads v x) : x.category = pcat v := by
  match v, h with
  | .inl a, h => obtain ⟨y, rfl, -⟩ := h; rfl
  | .inr (.inl a), h => obtain ⟨y, rfl, -⟩ := h; rfl
  | .inr (.inr w), h => obtain ⟨y, rfl⟩ := rv_ref h; rfl
theorem sv_cat : ∀ {s1 : List PV} {v1 : List Value}, sv b ads s1 v1 → (v1.map fun v => v.category).sum = (s1.map pcat).sum
  | [], v1, h1 => by rw [sv_n h1]; rfl
  | v :: s, v1, h1 => by
    obtain ⟨x, xs, rfl, g1, g2⟩ := sv_c h1
    simp only [List.map_cons, List.sum_cons, sv_cat g2, rv_cat g1]
theorem sv_c8 {s1 : List PV} {v1 : List Value} (h : sv b ads s1 v1) (h8 : cat8 s1 = true) : (v1.map fun v => v.category).sum ≤ 8 := by
  rw [sv_cat h]; exact Nat.le_of_ble_eq_true h8
/-- the locals with which a method begins -/
theorem ini_get : ∀ (as : List PV) (vs : List Value), sv b ads as vs → ∀ (n : Nat) (i : Nat) (v : PV), (iniS as)[i]? = some (some v) → ∃ x, (n + i, x) ∈ lv_args n vs ∧ rv b ads v x
  | [], vs, h, n, i, v, hi => by simp [iniS] at hi
  | u :: as, vs, h, n, i, v, hi => by
    obtain ⟨x, xs, rfl, g1, g2⟩ := sv_c h
    have ih := ini_get as xs g2
    have hc := rv_cat g1
    unfold lv_args
    match u, g1, hc, hi with
    | .inr (.inl a), g1, hc, hi =>
      have hi' : (([some (.inr (.inl a)), none] : LSt) ++ iniS as)[i]? = some (some v) := hi
      have hc2 : x.category = 2 := hc
      match i, hi' with
      | 0, hi' => cases hi'; exact ⟨x, List.mem_cons_self, g1⟩
      | 1, hi' => cases hi'
      | i + 2, hi' =>
        obtain ⟨z, z1, z2⟩ := ih (n + 2) i v hi'
        refine ⟨z, List.mem_cons_of_mem _ ?_, z2⟩
        rw [if_pos hc2, show n + (i + 2) = n + 2 + i by omega]
        exact z1
    | .inl a, g1, hc, hi =>
      have hi' : (([some (.inl a)] : LSt) ++ iniS as)[i]? = some (some v) := hi
      have hc2 : ¬ x.category = 2 := by rw [hc]; exact (fun q => by cases q)
      match i, hi' with
      | 0, hi' => cases hi'; exact ⟨x, List.mem_cons_self, g1⟩
      | i + 1, hi' =>
        obtain ⟨z, z1, z2⟩ := ih (n + 1) i v hi'
        refine ⟨z, List.mem_cons_of_mem _ ?_, z2⟩
        rw [if_neg hc2, show n + (i + 1) = n + 1 + i by omega]
        exact z1
    | .inr (.inr a), g1, hc, hi =>
      have hi' : (([some (.inr (.inr a))] : LSt) ++ iniS as)[i]? = some (some v) := hi
      have hc2 : ¬ x.category = 2 := by rw [hc]; exact (fun q => by cases q)
      match i, hi' with
      | 0, hi' => cases hi'; exact ⟨x, List.mem_cons_self, g1⟩
      | i + 1, hi' =>
        obtain ⟨z, z1, z2⟩ := ih (n + 1) i v hi'
        refine ⟨z, List.mem_cons_of_mem _ ?_, z2⟩
        rw [if_neg hc2, show n + (i + 1) = n + 1 + i by omega]
        exact z1
theorem ini_len : ∀ (as : List PV) (vs : List Value), sv b ads as vs → (lg_sl vs).length = (iniS as).length
  | [], vs, h => by rw [sv_n h]; rfl
  | u :: as, vs, h => by
    obtain ⟨x, xs, rfl, g1, g2⟩ := sv_c h
    have ih := ini_len as xs g2
    have hc := rv_cat g1
    show ((if x.category = 2 then [Slot.val x, Slot.second] else [Slot.val x]) ++ lg_sl xs).length = _
    match u, hc with
    | .inr (.inl a), hc =>
      have hc2 : x.category = 2 := hc
      rw [if_pos hc2]
      show _ = (([some (.inr (.inl a)), none] : LSt) ++ iniS as).length
      simp [ih]
    | .inl a, hc =>
      have hc2 : ¬ x.category = 2 := by rw [hc]; exact (fun q => by cases q)
      rw [if_neg hc2]
      show _ = (([some (.inl a)] : LSt) ++ iniS as).length
      simp [ih]
    | .inr (.inr a), hc =>
      have hc2 : ¬ x.category = 2 := by rw [hc]; exact (fun q => by cases q)
      rw [if_neg hc2]
      show _ = (([some (.inr (.inr a))] : LSt) ++ iniS as).length
      simp [ih]
theorem ini_lr {n : Nat} {as : List PV} {vs : List Value} (h : sv b ads as vs) (hn : iniOk n as = true) : lr b ads (iniL n as) ((lg_sl vs ++ List.replicate (n - (lg_sl vs).length) Slot.unset).toArray) ∧ (iniL n as).length = n := by
  have hlen := ini_len as vs h
  have hle : (iniS as).length ≤ n := Nat.le_of_ble_eq_true hn
  have he := lv_entry vs (n := n) (by omega)
  have hL : (iniL n as).length = n := by unfold iniL; simp; omega
  refine ⟨⟨by rw [he.1, hL], he.2.1, fun i v hi => ?_⟩, hL⟩
  have hi2 : (iniS as)[i]? = some (some v) := by
    unfold iniL at hi
    by_cases q : i < (iniS as).length
    · rwa [List.getElem?_append_left q] at hi
    · rw [List.getElem?_append_right (by omega), List.getElem?_replicate] at hi
      split at hi <;> cases hi
  obtain ⟨x, h1, h2⟩ := ini_get as vs h 0 i v hi2
  rw [Nat.zero_add] at h1
  exact ⟨x, he.2.2 (i, x) h1, h2⟩
end INV
