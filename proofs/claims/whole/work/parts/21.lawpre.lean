/-! the law up to its loop -/
section LP
variable {S : SC} {d μ pc : Nat} {L : LSt} {st : List PV} {k : Nat × Nat} {sh : SHp} {gr : GW} {hr : RW} {w : WD} {h : HP} {Q : KK}
theorem W_new {j ci : Nat} (hc : cdA μ pc = some (.new j)) (hn : newR (moN μ) j = some ci) (hg : (Nat.ble (k.1 + 1) (mcO μ) && Nat.ble (k.2 + (clT ci).2.2) (msO μ)) = true) (h1 : gr.length = sh.length) (h2 : hr.length = sh.length)
    (H : WP S d μ (pc + 3) L (P sh.length :: st) (k.1 + 1, k.2 + (clT ci).2.2) (sh ++ [.inl ci], deng (gr ++ [List.replicate (clT ci).2.2 0])) (den (hr ++ [List.replicate (clT ci).2.2 0])) Q) : WP S d μ pc L st k (sh, deng gr) (den hr) Q := by
  refine WP_in ?_
  unfold STF; rw [hc]
  unfold stp; dsimp only; unfold mkO; rw [hn]
  refine ⟨hg, ?_⟩
  dsimp only
  rw [show clg (deng gr) sh.length = deng (gr ++ [List.replicate (clT ci).2.2 0]) by rw [← h1]; exact deng_app, show clr (den hr) sh.length = den (hr ++ [List.replicate (clT ci).2.2 0]) by rw [← h2]; exact den_app]
  exact H
theorem W_dupP {p : Nat} (hc : cdA μ pc = some .dup) (H : WP S d μ (pc + 1) L (P p :: P p :: st) k w h Q) : WP S d μ pc L (P p :: st) k w h Q := WP_in (by unfold STF; rw [hc]; exact ⟨rfl, H⟩)
theorem W_iconst {c : Int} (hc : cdA μ pc = some (.iconst c)) (hn : w32 c = c) (H : WP S d μ (pc + 1) L (I c :: st) k w h Q) : WP S d μ pc L st k w h Q := WP_in (by unfold STF; rw [hc]; exact ⟨hn, H⟩)
theorem W_istore {j : Fin 4} {a : Int} (hc : cdA μ pc = some (.istore_n j)) (hj : (Nat.blt (j : Nat) L.length && noJ L (j : Nat)) = true) (H : WP S d μ (pc + 1) (L.set (j : Nat) (some (I a))) st k w h Q) : WP S d μ pc L (I a :: st) k w h Q := WP_in (by unfold STF; rw [hc]; exact ⟨hj, H⟩)
theorem W_astore {j : Fin 4} {p : Nat} (hc : cdA μ pc = some (.astore_n j)) (hj : (Nat.blt (j : Nat) L.length && noJ L (j : Nat)) = true) (H : WP S d μ (pc + 1) (L.set (j : Nat) (some (P p))) st k w h Q) : WP S d μ pc L (P p :: st) k w h Q := WP_in (by
  unfold STF; rw [hc]
  unfold stp; dsimp only; unfold a1; dsimp only
  exact ⟨hj, H⟩)
theorem W_init {n j ν p l : Nat} {rest : List PV} {sh' : SHp} {gr' : GW} {hr' : RW} (hc : cdA μ pc = some (.invokespecial j)) (hm : mthR (moN μ) j = ν + 3) (hν : (mA ν = 0 ∧ mL ν = l ∧ mK ν = 4) ∧ (mY ν).name = "<init>") (hs : sh[p]? = some (.inl (moN ν))) (hg : gdC μ ν true (P p :: rest) rest k = true) (hi : iniOk l [P p] = true)
    (he : exr n d ν 0 (iniL l [P p]) [] (0, 0) sh gr hr = some (I 0, sh', gr', hr')) (H : WP S (d + 1) μ (pc + 3) L rest (k.1 + mcO ν, k.2 + msO ν) (sh', deng gr') (den hr') Q) : WP S (d + 1) μ pc L (P p :: rest) k (sh, deng gr) (den hr) Q := WP_in (by
  obtain ⟨⟨e1, e2, e3⟩, e4⟩ := hν
  unfold STF; rw [hc]
  unfold stp; dsimp only; rw [hm]; dsimp only
  refine ⟨e4, ?_⟩
  unfold ivR; rw [e1]
  refine ⟨hs, hg, ?_⟩
  refine ⟨by rw [e2]; exact hi, ?_⟩
  rw [e2]
  refine exr_ok _ _ _ _ _ _ _ _ _ _ _ _ _ _ he S0 _ ?_
  dsimp only
  unfold psh; rw [if_pos e3]
  exact H)
end LP
theorem lc_0 : cdA 227 0 = some (.new 7) := by decide +kernel
theorem lc_3 : cdA 227 3 = some .dup := by decide +kernel
theorem lc_4 : cdA 227 4 = some (.invokespecial 9) := by decide +kernel
theorem lc_7 : cdA 227 7 = some (.astore_n 1) := by decide +kernel
theorem lc_8 : cdA 227 8 = some (.new 10) := by decide +kernel
theorem lc_11 : cdA 227 11 = some .dup := by decide +kernel
theorem lc_12 : cdA 227 12 = some (.invokespecial 12) := by decide +kernel
theorem lc_15 : cdA 227 15 = some (.astore_n 2) := by decide +kernel
theorem lc_16 : cdA 227 16 = some (.iconst 0) := by decide +kernel
theorem lc_17 : cdA 227 17 = some (.istore_n 3) := by decide +kernel
theorem ln_7 : newR (moN 227) 7 = some 11 := by decide +kernel
theorem ln_10 : newR (moN 227) 10 = some 12 := by decide +kernel
theorem lm_9 : mthR (moN 227) 9 = 82 := by decide +kernel
theorem lm_12 : mthR (moN 227) 12 = 136 := by decide +kernel
theorem li_79 : (mA 79 = 0 ∧ mL 79 = 1 ∧ mK 79 = 4) ∧ (mY 79).name = "<init>" := by decide +kernel
theorem li_133 : (mA 133 = 0 ∧ mL 133 = 2 ∧ mK 133 = 4) ∧ (mY 133).name = "<init>" := by decide +kernel
theorem lN_11 : (clT 11).2.2 = 9 := by decide +kernel
theorem lN_12 : (clT 12).2.2 = 93 := by decide +kernel
def kL : Nat × Nat := (0 + 1 + mcO 79 + 1 + mcO 133, 0 + 9 + msO 79 + 93 + msO 133)
theorem kL_ok : kL.1 ≤ 1000 ∧ kL.2 ≤ 100000 := by decide +kernel
theorem law_pre {S : SC} {Q : KK} (H : WP S 64 227 18 [some (.inr (.inr (.inr ()))), some (P 0), some (P 69), some (I 0)] [] kL (SHb, deng GRb) (den HRb) Q) : WP S 64 227 0 (iniL 4 [.inr (.inr (.inr ()))]) [] (0, 0) ([], deng []) (den []) Q := by
  refine W_new (ci := 11) lc_0 ln_7 (by decide +kernel) rfl rfl ?_
  rw [lN_11]
  refine W_dupP lc_3 ?_
  refine W_init (ν := 79) (l := 1) (d := 63) (n := 3000) lc_4 lm_9 li_79 (by decide +kernel) (by decide +kernel) rfl (ckX_ok ex_a) ?_
  refine W_astore lc_7 rfl ?_
  refine W_new (ci := 12) lc_8 ln_10 (by decide +kernel) (by decide +kernel) (by decide +kernel) ?_
  rw [lN_12]
  refine W_dupP lc_11 ?_
  refine W_init (ν := 133) (l := 2) (d := 63) (n := 3000) lc_12 lm_12 li_133 (by decide +kernel) (by decide +kernel) rfl (ckX_ok ex_b) ?_
  refine W_astore lc_15 rfl ?_
  refine W_iconst lc_16 rfl ?_
  refine W_istore lc_17 rfl ?_
  exact H
