/-! scenes of both sides, as eleven things; what changes them; refusals -/
def hnF (h : HP) : Nat → Int := fun k => if h 29 k = 1 ∨ h 29 k = 3 then 1 else 0
def z0F : Nat → Int := fun _ => 0
def SCE (g : HP) (sun yr wb sb : Int) (wk bn fz dr st ld ex : Nat → Int) : Prop :=
  (g 41 2 = sun ∧ g 41 3 = yr ∧ g 41 4 = wb ∧ g 41 5 = sb) ∧ (∀ k : Nat, (k : Int) < g 22 2 → (bR (g 41 6) k = 0 ↔ wk k = 0) ∧ g 42 k = st k) ∧ (∀ k : Nat, (k : Int) < g 26 2 → (bR (g 41 7) k = 0 ↔ bn k = 0)) ∧ (∀ k : Nat, (k : Int) < g 17 1 → (bR (g 41 8) k = 0 ↔ fz k = 0)) ∧ (∀ p : Nat, (p : Int) < g 2 0 → drC g p = dr p ∧ exC g p = ex p) ∧ (∀ j : Nat, (j : Int) < g 12 1 → g 43 j = ld j) ∧ SCN g
def SCM (g : HP) (sun yr wb sb : Int) (wk bn fz dr st ld : Nat → Int) : Prop :=
  (g 69 59 = sun ∧ g 69 60 = yr ∧ g 69 61 = wb ∧ g 69 62 = sb) ∧ (∀ k : Nat, (k : Int) < g 22 2 → (g 108 k = 0 ↔ wk k = 0) ∧ g 109 k = st k) ∧ (∀ k : Nat, (k : Int) < g 26 2 → (g 110 k = 0 ↔ bn k = 0)) ∧ (∀ k : Nat, (k : Int) < g 17 1 → (g 107 k = 0 ↔ fz k = 0)) ∧ (∀ p : Nat, (p : Int) < g 2 0 → g 111 p = dr p) ∧ (∀ j : Nat, (j : Int) < g 12 1 → g 106 j = ld j) ∧ ((0 ≤ sun ∧ sun ≤ 1500) ∧ (0 ≤ yr ∧ yr ≤ 9) ∧ (0 ≤ wb ∧ wb ≤ 150) ∧ (0 ≤ sb ∧ sb ≤ 150)) ∧ (∀ j : Nat, (j : Int) < g 12 1 → 0 ≤ ld j ∧ ld j ≤ 99)
theorem RV_t {h g : HP} {sun yr wb sb : Int} {wk bn fz dr st ld ex : Nat → Int} (a : SCT h g) : RV g sun yr wb sb wk bn fz dr st ld ex = RV h sun yr wb sb wk bn fz dr st ld ex :=
  (RV_c a (fun _ _ => ⟨Iff.rfl, rfl⟩) (fun _ _ => Iff.rfl) (fun _ _ => Iff.rfl) (fun _ _ => ⟨rfl, rfl⟩) (fun _ _ => rfl)).symm
theorem RV_s {h g : HP} {sun yr wb sb : Int} {wk bn fz dr st ld ex : Nat → Int} (a : SCR h g) : RV g sun yr wb sb wk bn fz dr st ld ex = RV h sun yr wb sb wk bn fz dr st ld ex := RV_t (SCT_of a)
section SC
variable {d : Nat} {h g : HP} {Q : PV → HP → Prop} {sun yr wb sb : Int} {wk bn fz dr st ld ex : Nat → Int}
theorem c_scT (hR : R h) (a : SCT h g) (hS : SCE g sun yr wb sb wk bn fz dr st ld ex) (H : ∀ k, FS g k → isW (k 48) (RV h sun yr wb sb wk bn fz dr st ld ex) (g 2 0) → Q (I 0) k) : X (d + 4) 65 0 [some (P 41), none] [] g Q := by
  obtain ⟨⟨e1, e2, e3, e4⟩, x1, x2, x3, x4, x5, x6⟩ := hS
  refine c_rv (RK_of hR a) x6 (fun k fk hk => H k fk ?_)
  rw [e1, e2, e3, e4, RV_c (SCT_of (SCR_r g)) x1 x2 x3 x4 x5, RV_t a] at hk
  exact hk
theorem c_scpT {p : Int} (hR : R h) (a : SCT h g) (hS : SCE g sun yr wb sb wk bn fz dr st ld ex) (p0 : 0 ≤ p) (p1 : p < g 2 0) (H : ∀ k y, FS g k → y = RV h sun yr wb sb wk bn fz dr st ld ex p.toNat → 0 ≤ y → y ≤ 600 → Q (I y) k) : X (d + 5) 62 0 [some (P 41), some (I p)] [] g Q := by
  obtain ⟨⟨e1, e2, e3, e4⟩, x1, x2, x3, x4, x5, x6⟩ := hS
  refine c_rvp (RK_of hR a) x6 p0 p1 (fun k y fk hk y0 y6 => H k y fk ?_ y0 y6)
  rw [e1, e2, e3, e4, RV_c (SCT_of (SCR_r g)) x1 x2 x3 x4 x5, RV_t a] at hk
  exact hk
theorem c_sc (hR : R g) (a : SCR h g) (hS : SCE g sun yr wb sb wk bn fz dr st ld ex) (H : ∀ k, FS g k → isW (k 48) (RV h sun yr wb sb wk bn fz dr st ld ex) (g 2 0) → Q (I 0) k) : X (d + 4) 65 0 [some (P 41), none] [] g Q := c_scT (R_scr (SCR_y a) hR) (SCT_of a) hS H
theorem c_scp {p : Int} (hR : R g) (a : SCR h g) (hS : SCE g sun yr wb sb wk bn fz dr st ld ex) (p0 : 0 ≤ p) (p1 : p < g 2 0) (H : ∀ k y, FS g k → y = RV h sun yr wb sb wk bn fz dr st ld ex p.toNat → 0 ≤ y → y ≤ 600 → Q (I y) k) : X (d + 5) 62 0 [some (P 41), some (I p)] [] g Q := c_scpT (R_scr (SCR_y a) hR) (SCT_of a) hS p0 p1 H
theorem MS_sc (hR : R h) (a : SCT h g) (hS : SCM g sun yr wb sb wk bn fz dr st ld) : MS g := by
  obtain ⟨⟨e1, e2, e3, e4⟩, -, -, -, -, x5, ⟨y1, y2, y3, y4⟩, x6⟩ := hS
  rw [SCT_c a (q := 12) (by decide) (by decide)] at x5 x6
  refine MS_R hR a (by rw [e1]; exact y1) (by rw [e2]; exact y2) (by rw [e3]; exact y3) (by rw [e4]; exact y4) (fun j hj => ?_)
  rw [x5 j hj]
  exact x6 j hj
theorem m_scT (hR : R h) (a : SCT h g) (hS : SCM g sun yr wb sb wk bn fz dr st ld) (H : ∀ k, o105 g k → isW (k 105) (RV h sun yr wb sb wk bn fz dr st ld z0F) (h 2 0) → Q (I 0) k) : X (d + 2) 186 0 [some (P 69), none, none] [] g Q := by
  have hM := MS_sc hR a hS
  obtain ⟨⟨e1, e2, e3, e4⟩, x1, x2, x3, x4, x5, -⟩ := hS
  rw [SCT_c a (q := 12) (by decide) (by decide)] at x5
  rw [SCT_c a (q := 22) (by decide) (by decide)] at x1
  rw [SCT_c a (q := 26) (by decide) (by decide)] at x2
  rw [SCT_c a (q := 17) (by decide) (by decide)] at x3
  rw [SCT_c a (q := 2) (by decide) (by decide)] at x4
  refine m_rv hR a hM (fun k fk hk => H k fk ?_)
  rw [e1, e2, e3, e4, RV_c (ex := fun _ => 0) (ex' := z0F) (SCT_of (SCR_r h)) x1 x2 x3 (fun p hp => ⟨x4 p hp, rfl⟩) x5] at hk
  exact hk
theorem m_scpT {p : Int} (hR : R h) (a : SCT h g) (hS : SCM g sun yr wb sb wk bn fz dr st ld) (p0 : 0 ≤ p) (p1 : p < h 2 0) (H : ∀ k y, o105 g k → y = RV h sun yr wb sb wk bn fz dr st ld z0F p.toNat → 0 ≤ y → y ≤ 600 → Q (I y) k) : X (d + 3) 187 0 [some (P 69), some (I p)] [] g Q := by
  have n8 := (RK_of hR (SCT_of (SCR_r h))).1.2.1
  refine b187_0 (m_scT hR a hS (fun k hf hg => b187_4 (an_i p0 (by omega) ?_)))
  have := hg p.toNat (by omega)
  exact H k _ hf this.1 this.2.1 this.2.2
theorem m_sc (hR : R g) (a : SCR h g) (hS : SCM g sun yr wb sb wk bn fz dr st ld) (H : ∀ k, o105 g k → isW (k 105) (RV h sun yr wb sb wk bn fz dr st ld z0F) (g 2 0) → Q (I 0) k) : X (d + 2) 186 0 [some (P 69), none, none] [] g Q := m_scT (R_scr (SCR_y a) hR) (SCT_of a) hS (fun k o hk => H k o (by rw [a.1 2 (by decide)]; exact hk))
theorem m_scp {p : Int} (hR : R g) (a : SCR h g) (hS : SCM g sun yr wb sb wk bn fz dr st ld) (p0 : 0 ≤ p) (p1 : p < g 2 0) (H : ∀ k y, o105 g k → y = RV h sun yr wb sb wk bn fz dr st ld z0F p.toNat → 0 ≤ y → y ≤ 600 → Q (I y) k) : X (d + 3) 187 0 [some (P 69), some (I p)] [] g Q := m_scpT (R_scr (SCR_y a) hR) (SCT_of a) hS p0 (by rw [a.1 2 (by decide)] at p1; exact p1) H
/-- settling changes no scene -/
theorem SCE_FS {k : HP} (f : FS g k) (hS : SCE g sun yr wb sb wk bn fz dr st ld ex) : SCE k sun yr wb sb wk bn fz dr st ld ex := by
  unfold SCE SCN drC exC at *
  simp only [f 41 (by decide), f 42 (by decide), f 43 (by decide), f 22 (by decide), f 26 (by decide), f 17 (by decide), f 2 (by decide), f 12 (by decide), f 9 (by decide)]
  exact hS
theorem SCM_105 {k : HP} (f : o105 g k) (hS : SCM g sun yr wb sb wk bn fz dr st ld) : SCM k sun yr wb sb wk bn fz dr st ld := by
  unfold SCM at *
  simp only [f 69 (by decide), f 106 (by decide), f 107 (by decide), f 108 (by decide), f 109 (by decide), f 110 (by decide), f 111 (by decide), f 22 (by decide), f 26 (by decide), f 17 (by decide), f 2 (by decide), f 12 (by decide)]
  exact hS
theorem SCE_ld {j : Nat} {v : Int} (v0 : 0 ≤ v) (v1 : v ≤ 99) (hS : SCE g sun yr wb sb wk bn fz dr st ld ex) : SCE (up2 g 43 j v) sun yr wb sb wk bn fz dr st (st1 ld j v) ex := by
  obtain ⟨e, x1, x2, x3, x4, x5, ⟨x6, x7, x8, x9⟩⟩ := hS
  unfold SCE SCN drC exC at *
  simp only [up_p, ne_eq, Nat.reduceEqDiff, not_false_eq_true, up_st]
  refine ⟨e, x1, x2, x3, x4, fun i hi => ?_, x6, x7, x8, fun i hi => ?_⟩
  · unfold st1
    split
    · rfl
    · exact x5 i hi
  · unfold st1
    split
    · exact ⟨v0, v1⟩
    · exact x9 i hi
theorem SCM_ld {j : Nat} {v : Int} (v0 : 0 ≤ v) (v1 : v ≤ 99) (hS : SCM g sun yr wb sb wk bn fz dr st ld) : SCM (up2 g 106 j v) sun yr wb sb wk bn fz dr st (st1 ld j v) := by
  obtain ⟨e, x1, x2, x3, x4, x5, x6, x7⟩ := hS
  unfold SCM at *
  simp only [up_p, ne_eq, Nat.reduceEqDiff, not_false_eq_true, up_st]
  refine ⟨e, x1, x2, x3, x4, fun i hi => ?_, x6, fun i hi => ?_⟩
  · unfold st1
    split
    · rfl
    · exact x5 i hi
  · unfold st1
    split
    · exact ⟨v0, v1⟩
    · exact x7 i hi
/-- fields of the scene -/
theorem SCE_sun {v : Int} (v0 : 0 ≤ v) (v1 : v ≤ 1500) (hS : SCE g sun yr wb sb wk bn fz dr st ld ex) : SCE (up2 g 41 2 v) v yr wb sb wk bn fz dr st ld ex := by
  obtain ⟨⟨e1, e2, e3, e4⟩, x1, x2, x3, x4, x5, ⟨⟨y1, y2⟩, x7, x8, x9⟩⟩ := hS
  unfold SCE SCN drC exC at *
  simp only [up_p, up_i, up_s, ne_eq, Nat.reduceEqDiff, not_false_eq_true]
  exact ⟨⟨trivial, e2, e3, e4⟩, x1, x2, x3, x4, x5, ⟨⟨v0, v1⟩, y2⟩, x7, x8, x9⟩
theorem SCE_yr {v : Int} (v0 : 0 ≤ v) (v1 : v ≤ 9) (hS : SCE g sun yr wb sb wk bn fz dr st ld ex) : SCE (up2 g 41 3 v) sun v wb sb wk bn fz dr st ld ex := by
  obtain ⟨⟨e1, e2, e3, e4⟩, x1, x2, x3, x4, x5, ⟨⟨y1, y2, y3⟩, x7, x8, x9⟩⟩ := hS
  unfold SCE SCN drC exC at *
  simp only [up_p, up_i, up_s, ne_eq, Nat.reduceEqDiff, not_false_eq_true]
  exact ⟨⟨e1, trivial, e3, e4⟩, x1, x2, x3, x4, x5, ⟨y1, ⟨v0, v1⟩, y3⟩, x7, x8, x9⟩
theorem SCE_wb {v : Int} (v0 : 0 ≤ v) (v1 : v ≤ 150) (hS : SCE g sun yr wb sb wk bn fz dr st ld ex) : SCE (up2 g 41 4 v) sun yr v sb wk bn fz dr st ld ex := by
  obtain ⟨⟨e1, e2, e3, e4⟩, x1, x2, x3, x4, x5, ⟨⟨y1, y2, y3, y4⟩, x7, x8, x9⟩⟩ := hS
  unfold SCE SCN drC exC at *
  simp only [up_p, up_i, up_s, ne_eq, Nat.reduceEqDiff, not_false_eq_true]
  exact ⟨⟨e1, e2, trivial, e4⟩, x1, x2, x3, x4, x5, ⟨y1, y2, ⟨v0, v1⟩, y4⟩, x7, x8, x9⟩
theorem SCE_sb {v : Int} (v0 : 0 ≤ v) (v1 : v ≤ 150) (hS : SCE g sun yr wb sb wk bn fz dr st ld ex) : SCE (up2 g 41 5 v) sun yr wb v wk bn fz dr st ld ex := by
  obtain ⟨⟨e1, e2, e3, e4⟩, x1, x2, x3, x4, x5, ⟨⟨y1, y2, y3, y4⟩, x7, x8, x9⟩⟩ := hS
  unfold SCE SCN drC exC at *
  simp only [up_p, up_i, up_s, ne_eq, Nat.reduceEqDiff, not_false_eq_true]
  exact ⟨⟨e1, e2, e3, trivial⟩, x1, x2, x3, x4, x5, ⟨y1, y2, y3, ⟨v0, v1⟩⟩, x7, x8, x9⟩
theorem SCE_wk {v : Int} {wk' : Nat → Int} (v0 : 0 ≤ v) (v1 : v < 256) (H : ∀ k : Nat, (k : Int) < g 22 2 → (bR v k = 0 ↔ wk' k = 0)) (hS : SCE g sun yr wb sb wk bn fz dr st ld ex) : SCE (up2 g 41 6 v) sun yr wb sb wk' bn fz dr st ld ex := by
  obtain ⟨e, x1, x2, x3, x4, x5, ⟨x6, ⟨y1, y2, y3, y4⟩, x8, x9⟩⟩ := hS
  unfold SCE SCN drC exC at *
  simp only [up_p, up_i, up_s, ne_eq, Nat.reduceEqDiff, not_false_eq_true]
  exact ⟨e, fun k hk => ⟨H k hk, (x1 k hk).2⟩, x2, x3, x4, x5, x6, ⟨⟨v0, v1⟩, y2, y3, y4⟩, x8, x9⟩
theorem SCE_bn {v : Int} {bn' : Nat → Int} (v0 : 0 ≤ v) (v1 : v < 256) (H : ∀ k : Nat, (k : Int) < g 26 2 → (bR v k = 0 ↔ bn' k = 0)) (hS : SCE g sun yr wb sb wk bn fz dr st ld ex) : SCE (up2 g 41 7 v) sun yr wb sb wk bn' fz dr st ld ex := by
  obtain ⟨e, x1, x2, x3, x4, x5, ⟨x6, ⟨y1, y2, y3, y4⟩, x8, x9⟩⟩ := hS
  unfold SCE SCN drC exC at *
  simp only [up_p, up_i, up_s, ne_eq, Nat.reduceEqDiff, not_false_eq_true]
  exact ⟨e, x1, H, x3, x4, x5, x6, ⟨y1, ⟨v0, v1⟩, y3, y4⟩, x8, x9⟩
theorem SCE_fz {v : Int} {fz' : Nat → Int} (v0 : 0 ≤ v) (v1 : v < 256) (H : ∀ k : Nat, (k : Int) < g 17 1 → (bR v k = 0 ↔ fz' k = 0)) (hS : SCE g sun yr wb sb wk bn fz dr st ld ex) : SCE (up2 g 41 8 v) sun yr wb sb wk bn fz' dr st ld ex := by
  obtain ⟨e, x1, x2, x3, x4, x5, ⟨x6, ⟨y1, y2, y3, y4⟩, x8, x9⟩⟩ := hS
  unfold SCE SCN drC exC at *
  simp only [up_p, up_i, up_s, ne_eq, Nat.reduceEqDiff, not_false_eq_true]
  exact ⟨e, x1, x2, H, x4, x5, x6, ⟨y1, y2, ⟨v0, v1⟩, y4⟩, x8, x9⟩
theorem SCE_st {k : Nat} {v : Int} (v0 : 0 ≤ v) (v1 : v < 8) (hS : SCE g sun yr wb sb wk bn fz dr st ld ex) : SCE (up2 g 42 k v) sun yr wb sb wk bn fz dr (st1 st k v) ld ex := by
  obtain ⟨e, x1, x2, x3, x4, x5, ⟨x6, x7, x8, x9⟩⟩ := hS
  unfold SCE SCN drC exC at *
  simp only [up_p, ne_eq, Nat.reduceEqDiff, not_false_eq_true, up_st]
  refine ⟨e, fun i hi => ⟨(x1 i hi).1, ?_⟩, x2, x3, x4, x5, x6, x7, fun i hi => ?_, x9⟩
  · unfold st1
    split
    · rfl
    · exact (x1 i hi).2
  · unfold st1
    split
    · exact ⟨v0, v1⟩
    · exact x8 i hi
theorem SCM_sun {v : Int} (v0 : 0 ≤ v) (v1 : v ≤ 1500) (hS : SCM g sun yr wb sb wk bn fz dr st ld) : SCM (up2 g 69 59 v) v yr wb sb wk bn fz dr st ld := by
  obtain ⟨⟨e1, e2, e3, e4⟩, x1, x2, x3, x4, x5, ⟨y1, y2⟩, x7⟩ := hS
  unfold SCM at *
  simp only [up_p, up_i, up_s, ne_eq, Nat.reduceEqDiff, not_false_eq_true]
  exact ⟨⟨trivial, e2, e3, e4⟩, x1, x2, x3, x4, x5, ⟨⟨v0, v1⟩, y2⟩, x7⟩
theorem SCM_yr {v : Int} (v0 : 0 ≤ v) (v1 : v ≤ 9) (hS : SCM g sun yr wb sb wk bn fz dr st ld) : SCM (up2 g 69 60 v) sun v wb sb wk bn fz dr st ld := by
  obtain ⟨⟨e1, e2, e3, e4⟩, x1, x2, x3, x4, x5, ⟨y1, y2, y3⟩, x7⟩ := hS
  unfold SCM at *
  simp only [up_p, up_i, up_s, ne_eq, Nat.reduceEqDiff, not_false_eq_true]
  exact ⟨⟨e1, trivial, e3, e4⟩, x1, x2, x3, x4, x5, ⟨y1, ⟨v0, v1⟩, y3⟩, x7⟩
theorem SCM_wb {v : Int} (v0 : 0 ≤ v) (v1 : v ≤ 150) (hS : SCM g sun yr wb sb wk bn fz dr st ld) : SCM (up2 g 69 61 v) sun yr v sb wk bn fz dr st ld := by
  obtain ⟨⟨e1, e2, e3, e4⟩, x1, x2, x3, x4, x5, ⟨y1, y2, y3, y4⟩, x7⟩ := hS
  unfold SCM at *
  simp only [up_p, up_i, up_s, ne_eq, Nat.reduceEqDiff, not_false_eq_true]
  exact ⟨⟨e1, e2, trivial, e4⟩, x1, x2, x3, x4, x5, ⟨y1, y2, ⟨v0, v1⟩, y4⟩, x7⟩
theorem SCM_sb {v : Int} (v0 : 0 ≤ v) (v1 : v ≤ 150) (hS : SCM g sun yr wb sb wk bn fz dr st ld) : SCM (up2 g 69 62 v) sun yr wb v wk bn fz dr st ld := by
  obtain ⟨⟨e1, e2, e3, e4⟩, x1, x2, x3, x4, x5, ⟨y1, y2, y3, y4⟩, x7⟩ := hS
  unfold SCM at *
  simp only [up_p, up_i, up_s, ne_eq, Nat.reduceEqDiff, not_false_eq_true]
  exact ⟨⟨e1, e2, e3, trivial⟩, x1, x2, x3, x4, x5, ⟨y1, y2, y3, ⟨v0, v1⟩⟩, x7⟩
theorem SCM_bn {k : Nat} {v : Int} (hS : SCM g sun yr wb sb wk bn fz dr st ld) : SCM (up2 g 110 k v) sun yr wb sb wk (st1 bn k v) fz dr st ld := by
  obtain ⟨e, x1, x2, x3, x4, x5, x6, x7⟩ := hS
  unfold SCM at *
  simp only [up_p, ne_eq, Nat.reduceEqDiff, not_false_eq_true, up_st]
  refine ⟨e, x1, fun i hi => ?_, x3, x4, x5, x6, x7⟩
  unfold st1
  split
  · exact Iff.rfl
  · exact x2 i hi
theorem SCM_wk {k : Nat} {v : Int} (hS : SCM g sun yr wb sb wk bn fz dr st ld) : SCM (up2 g 108 k v) sun yr wb sb (st1 wk k v) bn fz dr st ld := by
  obtain ⟨e, x1, x2, x3, x4, x5, x6, x7⟩ := hS
  unfold SCM at *
  simp only [up_p, ne_eq, Nat.reduceEqDiff, not_false_eq_true, up_st]
  refine ⟨e, fun i hi => ⟨?_, (x1 i hi).2⟩, x2, x3, x4, x5, x6, x7⟩
  unfold st1
  split
  · exact Iff.rfl
  · exact (x1 i hi).1
theorem SCM_fz {k : Nat} {v : Int} (hS : SCM g sun yr wb sb wk bn fz dr st ld) : SCM (up2 g 107 k v) sun yr wb sb wk bn (st1 fz k v) dr st ld := by
  obtain ⟨e, x1, x2, x3, x4, x5, x6, x7⟩ := hS
  unfold SCM at *
  simp only [up_p, ne_eq, Nat.reduceEqDiff, not_false_eq_true, up_st]
  refine ⟨e, x1, x2, fun i hi => ?_, x4, x5, x6, x7⟩
  unfold st1
  split
  · exact Iff.rfl
  · exact x3 i hi
theorem SCM_st {k : Nat} {v : Int} (hS : SCM g sun yr wb sb wk bn fz dr st ld) : SCM (up2 g 109 k v) sun yr wb sb wk bn fz dr (st1 st k v) ld := by
  obtain ⟨e, x1, x2, x3, x4, x5, x6, x7⟩ := hS
  unfold SCM at *
  simp only [up_p, ne_eq, Nat.reduceEqDiff, not_false_eq_true, up_st]
  refine ⟨e, fun i hi => ⟨(x1 i hi).1, ?_⟩, x2, x3, x4, x5, x6, x7⟩
  unfold st1
  split
  · rfl
  · exact (x1 i hi).2
end SC
theorem bR_i {x : Int} {k : Nat} {y : Prop} {v : Int} (H : bit x k = true ↔ y) (hv : y ↔ ¬ v = 0) : (bR x k = 0 ↔ v = 0) := by
  rw [bR_c]
  constructor
  · intro q
    by_cases c : v = 0
    · exact c
    · have := H.mpr (hv.mpr c)
      rw [q] at this; cases this
  · intro q
    cases hb : bit x k
    · rfl
    · exact absurd q (hv.mp (H.mp hb))
/-- as now -/
theorem NOW_s {h g : HP} {hr : Nat} (hR : R h) (o : o41 h g) (hN : NOW g hr) : SCE g (h 34 hr) (h 30 5) 100 100 (h 25) (hnF h) (h 21) (h 9) (h 23) (h 15) z0F := by
  obtain ⟨⟨r1, r2, r3, r4, r5, r6, r7, r8⟩, ⟨r9, r10, r11, r12, r13⟩, ⟨r14, r15, r16, r17, r18, r19, r20⟩, ⟨r21, r22, r23, r24, r25, r26⟩, ⟨r27, r28, r29, r30, r31⟩, ⟨r32, r33⟩, ⟨r34, r35, r36, r37, r38, r39, r40, r41, r42, r43, r44, r45⟩, ⟨r46, r47, r48⟩, ⟨r49, r50, r51, r52, r53, r54, r55⟩, ⟨r56, r57, r58, r59, r60, r61, r62, r63, r64, r65⟩, ⟨r66, r67, r68, r69, r70, r71, r72, r73, r74, r75⟩, ⟨r76, r77, r78, r79, r80, r81, r82, r83⟩, ⟨r84, r85, r86, r87, r88, r89⟩, ⟨r90, r91, r92, r93, r94, r95, r96, r97, r98⟩, ⟨r99, r100, r101, r102, r103, r104, r105, r106⟩, ⟨r107, r108, r109, r110, r111, r112, r113⟩, ⟨r114, r115, r116, r117, r118, r119, r120, r121, r122, r123⟩⟩ := id hR
  have eo := fun q (hq : q < 41) => o q (by omega) (by omega) (by omega)
  unfold NOW at hN
  rw [eo 34 (by decide), eo 30 (by decide), eo 22 (by decide), eo 25 (by decide), eo 26 (by decide), eo 29 (by decide), eo 17 (by decide), eo 21 (by decide), eo 23 (by decide), eo 15 (by decide)] at hN
  obtain ⟨⟨e1, e2, e3, e4⟩, ⟨t1, t2, t3⟩, ⟨u1, u2, u3⟩, ⟨v1, v2⟩⟩ := hN
  have y34 := r88 hr
  unfold SCE SCN drC exC
  rw [eo 22 (by decide), eo 26 (by decide), eo 17 (by decide), eo 2 (by decide), eo 12 (by decide), eo 9 (by decide)]
  refine ⟨⟨e1, e2, e3, e4⟩, fun k hk => ⟨bR_i (t1.2 k) ⟨fun q => q.2, fun q => ⟨hk, q⟩⟩, v1 k (by omega)⟩, fun k hk => bR_i (t2.2 k) ⟨fun q => ?_, fun q => ⟨hk, ?_⟩⟩, fun k hk => bR_i (t3.2 k) ⟨fun q => q.2, fun q => ⟨hk, q⟩⟩, fun p hp => ⟨if_pos u1, ?_⟩, fun j hj => v2 j (by omega), ⟨⟨by omega, by omega⟩, ⟨by omega, by omega⟩, ⟨by omega, by omega⟩, ⟨by omega, by omega⟩⟩, ⟨t1.1, t2.1, t3.1, by omega, by omega⟩, fun k hk => ?_, fun j hj => ?_⟩
  · unfold hnF
    rw [if_pos (show h 29 k = 1 ∨ h 29 k = 3 from q.2)]; decide
  · unfold hnF at q
    by_cases c : h 29 k = 1 ∨ h 29 k = 3
    · exact c
    · rw [if_neg c] at q; exact absurd rfl q
  · rw [u3]
    show (if _ then (0 : Int) else 0) = 0
    split <;> rfl
  · have := r99 k
    rw [v1 k (by omega)]; omega
  · have := r92 j
    rw [v2 j (by omega)]; omega
theorem LAY_r {h g : HP} {hr : Nat} {i1 i2 i3 i4 i5 : Int} (hL : LAY h g hr i1 i2 i3 i4 i5) : SCR h g := by
  refine ⟨fun q hq => hL.1 q (by omega) (by omega), fun k hk => hL.2.1 k (fun c => ?_)⟩
  have : k = 59 ∨ k = 60 ∨ k = 61 ∨ k = 62 := by omega
  rcases this with e | e | e | e <;> subst e <;> cases hk
theorem LAY_sT {h0 h g : HP} {hr : Nat} (hR : R h0) (a : SCT h0 h) (a89 : h 89 = h0 89) (hL : LAY h g hr (h 12 1) (h 17 1) (h 22 2) (h 26 2) (h 2 0)) : SCM g (h0 34 hr) (h0 30 5) 100 100 (h0 25) (hnF h0) (h0 21) (h0 9) (h0 23) (h0 15) := by
  obtain ⟨⟨r1, r2, r3, r4, r5, r6, r7, r8⟩, ⟨r9, r10, r11, r12, r13⟩, ⟨r14, r15, r16, r17, r18, r19, r20⟩, ⟨r21, r22, r23, r24, r25, r26⟩, ⟨r27, r28, r29, r30, r31⟩, ⟨r32, r33⟩, ⟨r34, r35, r36, r37, r38, r39, r40, r41, r42, r43, r44, r45⟩, ⟨r46, r47, r48⟩, ⟨r49, r50, r51, r52, r53, r54, r55⟩, ⟨r56, r57, r58, r59, r60, r61, r62, r63, r64, r65⟩, ⟨r66, r67, r68, r69, r70, r71, r72, r73, r74, r75⟩, ⟨r76, r77, r78, r79, r80, r81, r82, r83⟩, ⟨r84, r85, r86, r87, r88, r89⟩, ⟨r90, r91, r92, r93, r94, r95, r96, r97, r98⟩, ⟨r99, r100, r101, r102, r103, r104, r105, r106⟩, ⟨r107, r108, r109, r110, r111, r112, r113⟩, ⟨r114, r115, r116, r117, r118, r119, r120, r121, r122, r123⟩⟩ := id hR
  have y34 := r88 hr
  obtain ⟨l1, l2, ⟨e1, e2, e3, e4⟩, l4, l5, l6, l7, l8⟩ := hL
  have m := fun q (hq : 69 < q) (h2 : q < 105) (h3 : q ≠ 89) => SCT_m a hq h2 h3
  unfold SCM
  rw [l1 22 (by decide) (by decide), l1 26 (by decide) (by decide), l1 17 (by decide) (by decide), l1 2 (by decide) (by decide), l1 12 (by decide) (by decide)]
  rw [m 82 (by decide) (by decide) (by decide)] at e1
  rw [a.2 31 rfl (by decide) (by decide)] at e2
  rw [m 85 (by decide) (by decide) (by decide)] at l4
  rw [a89] at l5
  rw [m 92 (by decide) (by decide) (by decide), m 90 (by decide) (by decide) (by decide)] at l6
  rw [m 95 (by decide) (by decide) (by decide)] at l7
  rw [m 75 (by decide) (by decide) (by decide), m 76 (by decide) (by decide) (by decide)] at l8
  rw [SCT_c a (q := 12) (by decide) (by decide)] at l4 ⊢
  rw [SCT_c a (q := 22) (by decide) (by decide)] at l6 ⊢
  rw [SCT_c a (q := 26) (by decide) (by decide)] at l7 ⊢
  rw [SCT_c a (q := 17) (by decide) (by decide)] at l5 ⊢
  rw [SCT_c a (q := 2) (by decide) (by decide)] at l8 ⊢
  refine ⟨⟨by rw [e1, r12], by rw [e2, r39], e3, e4⟩, fun k hk => ⟨?_, ?_⟩, fun k hk => ?_, fun k hk => ?_, fun p hp => ?_, fun j hj => ?_, ⟨by omega, by omega, by omega, by omega⟩, fun j hj => ?_⟩
  · rw [(l6 k hk).1, r23]
  · rw [(l6 k hk).2, r21]
  · rw [l7 k hk, ← r26]; exact Iff.rfl
  · rw [l5 k hk, r20]
  · rw [l8 p hp, ← r6]
    rcases r81 p with ⟨c1, c2⟩ | ⟨c1, c2, c3, c4⟩
    · rw [if_pos (by omega)]; exact c2.symm
    · rw [if_neg (by omega)]; exact c4
  · rw [l4 j hj, r16]
  · have := r92 j
    omega
theorem LAY_s {h g : HP} {hr : Nat} (hR : R h) (hL : LAY h g hr (h 12 1) (h 17 1) (h 22 2) (h 26 2) (h 2 0)) : SCM g (h 34 hr) (h 30 5) 100 100 (h 25) (hnF h) (h 21) (h 9) (h 23) (h 15) := LAY_sT hR (SCT_of (SCR_r h)) rfl hL
/-- refusals -/
def rfC (h : HP) (a : Int) : HP := up2 h 68 (w32 (-a)).toNat (w32 (h 68 (w32 (-a)).toNat + 1))
def rfM (h : HP) (a : Int) : HP := up2 h 97 (w32 (-a)).toNat (w32 (h 97 (w32 (-a)).toNat + 1))
theorem rfC_p {h : HP} {a : Int} {q : Nat} (hq : q ≠ 68) : rfC h a q = h q := up_p hq
theorem EQA_rf {h : HP} {a b : Int} (hR : R h) : EQA (I b) (I b) (rfM (rfC h a) a) := by
  have := EQA_ref hR (w32 (-a)).toNat b
  unfold rfM rfC
  rw [up_p (by decide)]
  exact this
theorem R_cnt {h : HP} (hR : R h) : (h 69 9 = h 2 0 ∧ h 69 17 = h 12 1 ∧ h 69 22 = h 17 1 ∧ h 69 26 = h 22 2 ∧ h 69 30 = h 26 2) ∧ (0 ≤ h 2 0 ∧ h 2 0 ≤ 8) ∧ (0 ≤ h 12 1 ∧ h 12 1 ≤ 20) ∧ (0 ≤ h 17 1 ∧ h 17 1 ≤ 8) ∧ (0 ≤ h 22 2 ∧ h 22 2 ≤ 8) ∧ (0 ≤ h 26 2 ∧ h 26 2 ≤ 4) := by
  obtain ⟨⟨r1, r2, r3, r4, r5, r6, r7, r8⟩, ⟨r9, r10, r11, r12, r13⟩, ⟨r14, r15, r16, r17, r18, r19, r20⟩, ⟨r21, r22, r23, r24, r25, r26⟩, ⟨r27, r28, r29, r30, r31⟩, ⟨r32, r33⟩, ⟨r34, r35, r36, r37, r38, r39, r40, r41, r42, r43, r44, r45⟩, ⟨r46, r47, r48⟩, ⟨r49, r50, r51, r52, r53, r54, r55⟩, ⟨r56, r57, r58, r59, r60, r61, r62, r63, r64, r65⟩, ⟨r66, r67, r68, r69, r70, r71, r72, r73, r74, r75⟩, ⟨r76, r77, r78, r79, r80, r81, r82, r83⟩, ⟨r84, r85, r86, r87, r88, r89⟩, ⟨r90, r91, r92, r93, r94, r95, r96, r97, r98⟩, ⟨r99, r100, r101, r102, r103, r104, r105, r106⟩, ⟨r107, r108, r109, r110, r111, r112, r113⟩, ⟨r114, r115, r116, r117, r118, r119, r120, r121, r122, r123⟩⟩ := id hR
  exact ⟨⟨r34.symm, r35.symm, r36.symm, r37.symm, r38.symm⟩, ⟨r56, r57⟩, ⟨r58, r59⟩, ⟨r60, r61⟩, ⟨r62, r63⟩, ⟨r64, r65⟩⟩
