/-! X: a run of the pure machine in the world behind the constructors; a row an instruction, goal first -/
def X (d m pc : Nat) (L : LSt) (st : List PV) (h : HP) (Q : PV → HP → Prop) : Prop := ∀ w, wOK w → WP S0 d m pc L st (0, 0) w h (fun r w' h' => wOK w' ∧ Q r h')
abbrev I (a : Int) : PV := .inl a
abbrev J (a : Int) : PV := .inr (.inl a)
abbrev P (p : Nat) : PV := .inr (.inr (.inl p))
section RULES
variable {d m pc : Nat} {L : LSt} {st : List PV} {h : HP} {Q : PV → HP → Prop}
theorem X_in {i : Jvm.ClassFile.Instr} (hc : cdA m pc = some i) (H : ∀ w, wOK w → stp S0 m pc i L st (0, 0) w h (fun r w' h' => wOK w' ∧ Q r h') (fun pc L st k w h => WP S0 d m pc L st k w h (fun r w' h' => wOK w' ∧ Q r h')) (clF WP d)) : X d m pc L st h Q :=
  fun w hw => WP_in (by unfold STF; rw [hc]; exact H w hw)
theorem X_mono {Q' : PV → HP → Prop} (H : X d m pc L st h Q) (hQ : ∀ r h, Q r h → Q' r h) : X d m pc L st h Q' := fun w hw => WP_mono (H w hw) (fun r w h q => ⟨q.1, hQ r h q.2⟩)
theorem s_iconst {n : Int} (hc : cdA m pc = some (.iconst n)) (hn : w32 n = n) (H : X d m (pc + 1) L (I n :: st) h Q) : X d m pc L st h Q := X_in hc (fun w hw => ⟨hn, H w hw⟩)
theorem s_bipush {n : Int} (hc : cdA m pc = some (.bipush n)) (hn : -128 ≤ n ∧ n ≤ 127) (H : X d m (pc + 2) L (I n :: st) h Q) : X d m pc L st h Q := X_in hc (fun w hw => ⟨hn, H w hw⟩)
theorem s_sipush {n : Int} (hc : cdA m pc = some (.sipush n)) (hn : -32768 ≤ n ∧ n ≤ 32767) (H : X d m (pc + 3) L (I n :: st) h Q) : X d m pc L st h Q := X_in hc (fun w hw => ⟨hn, H w hw⟩)
theorem s_lconst {n : Fin 2} (hc : cdA m pc = some (.lconst n)) (H : X d m (pc + 1) L (J ((n : Nat) : Int) :: st) h Q) : X d m pc L st h Q := X_in hc (fun w hw => H w hw)
theorem s_ldc {j : Nat} {v : Int} (hc : cdA m pc = some (.ldc j)) (hv : cstR (moN m) j = some v) (hn : w32 v = v) (H : X d m (pc + 2) L (I v :: st) h Q) : X d m pc L st h Q := X_in hc (fun w hw => by unfold stp; dsimp only; rw [hv]; exact ⟨hn, H w hw⟩)
theorem s_ldcw {j : Nat} {v : Int} (hc : cdA m pc = some (.ldc_w j)) (hv : cstR (moN m) j = some v) (hn : w32 v = v) (H : X d m (pc + 3) L (I v :: st) h Q) : X d m pc L st h Q := X_in hc (fun w hw => by unfold stp; dsimp only; rw [hv]; exact ⟨hn, H w hw⟩)
theorem s_ldc2 {j : Nat} {v : Int} (hc : cdA m pc = some (.ldc2_w j)) (hv : lcsR (moN m) j = some v) (hn : w64 v = v) (H : X d m (pc + 3) L (J v :: st) h Q) : X d m pc L st h Q := X_in hc (fun w hw => by unfold stp; dsimp only; rw [hv]; exact ⟨hn, H w hw⟩)
theorem s_iload {j : Nat} {a : Int} (hc : cdA m pc = some (.iload j)) (hl : L[j]? = some (some (I a))) (H : X d m (pc + 2) L (I a :: st) h Q) : X d m pc L st h Q := X_in hc (fun w hw => by show ldI L j _; unfold ldI; rw [hl]; exact H w hw)
theorem s_iload_n {j : Fin 4} {a : Int} (hc : cdA m pc = some (.iload_n j)) (hl : L[(j : Nat)]? = some (some (I a))) (H : X d m (pc + 1) L (I a :: st) h Q) : X d m pc L st h Q := X_in hc (fun w hw => by show ldI L j _; unfold ldI; rw [hl]; exact H w hw)
theorem s_lload_n {j : Fin 4} {a : Int} (hc : cdA m pc = some (.lload_n j)) (hl : L[(j : Nat)]? = some (some (J a))) (H : X d m (pc + 1) L (J a :: st) h Q) : X d m pc L st h Q := X_in hc (fun w hw => by show ldJ L j _; unfold ldJ; rw [hl]; exact H w hw)
theorem s_aload_n {j : Fin 4} {p : Nat} (hc : cdA m pc = some (.aload_n j)) (hl : L[(j : Nat)]? = some (some (P p))) (H : X d m (pc + 1) L (P p :: st) h Q) : X d m pc L st h Q := X_in hc (fun w hw => by unfold stp; dsimp only; unfold ldA; rw [hl]; exact H w hw)
theorem s_aload {j : Nat} {p : Nat} (hc : cdA m pc = some (.aload j)) (hl : L[j]? = some (some (P p))) (H : X d m (pc + 2) L (P p :: st) h Q) : X d m pc L st h Q := X_in hc (fun w hw => by unfold stp; dsimp only; unfold ldA; rw [hl]; exact H w hw)
theorem s_istore {j : Nat} {a : Int} (hc : cdA m pc = some (.istore j)) (hj : (Nat.blt j L.length && noJ L j) = true) (H : X d m (pc + 2) (L.set j (some (I a))) st h Q) : X d m pc L (I a :: st) h Q := X_in hc (fun w hw => ⟨hj, H w hw⟩)
theorem s_istore_n {j : Fin 4} {a : Int} (hc : cdA m pc = some (.istore_n j)) (hj : (Nat.blt (j : Nat) L.length && noJ L (j : Nat)) = true) (H : X d m (pc + 1) (L.set (j : Nat) (some (I a))) st h Q) : X d m pc L (I a :: st) h Q := X_in hc (fun w hw => ⟨hj, H w hw⟩)
theorem s_iinc {j : Nat} {n a : Int} (hc : cdA m pc = some (.iinc j n)) (hl : L[j]? = some (some (I a))) (hn : w32 n = n) (hj : (Nat.blt j L.length && noJ L j) = true) (H : X d m (pc + 3) (L.set j (some (I (w32 (a + n))))) st h Q) : X d m pc L st h Q := X_in hc (fun w hw => by show ldI L j _; unfold ldI; rw [hl]; exact ⟨hn, hj, H w hw⟩)
theorem s_iadd {a b : Int} (hc : cdA m pc = some .iadd) (H : X d m (pc + 1) L (I (w32 (a + b)) :: st) h Q) : X d m pc L (I b :: I a :: st) h Q := X_in hc (fun w hw => H w hw)
theorem s_isub {a b : Int} (hc : cdA m pc = some .isub) (H : X d m (pc + 1) L (I (w32 (a - b)) :: st) h Q) : X d m pc L (I b :: I a :: st) h Q := X_in hc (fun w hw => H w hw)
theorem s_imul {a b : Int} (hc : cdA m pc = some .imul) (H : X d m (pc + 1) L (I (w32 (a * b)) :: st) h Q) : X d m pc L (I b :: I a :: st) h Q := X_in hc (fun w hw => H w hw)
theorem s_idiv {a b : Int} (hc : cdA m pc = some .idiv) (hb : ¬ b = 0) (H : X d m (pc + 1) L (I (w32 (Int.tdiv a b)) :: st) h Q) : X d m pc L (I b :: I a :: st) h Q := X_in hc (fun w hw => ⟨hb, H w hw⟩)
theorem s_irem {a b : Int} (hc : cdA m pc = some .irem) (hb : ¬ b = 0) (H : X d m (pc + 1) L (I (Int.tmod a b) :: st) h Q) : X d m pc L (I b :: I a :: st) h Q := X_in hc (fun w hw => ⟨hb, H w hw⟩)
theorem s_ineg {a : Int} (hc : cdA m pc = some .ineg) (H : X d m (pc + 1) L (I (w32 (-a)) :: st) h Q) : X d m pc L (I a :: st) h Q := X_in hc (fun w hw => H w hw)
theorem s_iand {a b : Int} (hc : cdA m pc = some .iand) (H : X d m (pc + 1) L (I (bAnd a b) :: st) h Q) : X d m pc L (I b :: I a :: st) h Q := X_in hc (fun w hw => H w hw)
theorem s_ior {a b : Int} (hc : cdA m pc = some .ior) (H : X d m (pc + 1) L (I (bOr a b) :: st) h Q) : X d m pc L (I b :: I a :: st) h Q := X_in hc (fun w hw => H w hw)
theorem s_ixor {a b : Int} (hc : cdA m pc = some .ixor) (H : X d m (pc + 1) L (I (bXor a b) :: st) h Q) : X d m pc L (I b :: I a :: st) h Q := X_in hc (fun w hw => H w hw)
theorem s_ishl {a b : Int} (hc : cdA m pc = some .ishl) (H : X d m (pc + 1) L (I (bShl a b) :: st) h Q) : X d m pc L (I b :: I a :: st) h Q := X_in hc (fun w hw => H w hw)
theorem s_ishr {a b : Int} (hc : cdA m pc = some .ishr) (H : X d m (pc + 1) L (I (bShr a b) :: st) h Q) : X d m pc L (I b :: I a :: st) h Q := X_in hc (fun w hw => H w hw)
theorem s_iushr {a b : Int} (hc : cdA m pc = some .iushr) (H : X d m (pc + 1) L (I (bUsh a b) :: st) h Q) : X d m pc L (I b :: I a :: st) h Q := X_in hc (fun w hw => H w hw)
theorem s_ladd {a b : Int} (hc : cdA m pc = some .ladd) (H : X d m (pc + 1) L (J (w64 (a + b)) :: st) h Q) : X d m pc L (J b :: J a :: st) h Q := X_in hc (fun w hw => H w hw)
theorem s_land {a b : Int} (hc : cdA m pc = some .land) (H : X d m (pc + 1) L (J (lAnd a b) :: st) h Q) : X d m pc L (J b :: J a :: st) h Q := X_in hc (fun w hw => H w hw)
theorem s_lor {a b : Int} (hc : cdA m pc = some .lor) (H : X d m (pc + 1) L (J (lOr a b) :: st) h Q) : X d m pc L (J b :: J a :: st) h Q := X_in hc (fun w hw => H w hw)
theorem s_lshl {a b : Int} (hc : cdA m pc = some .lshl) (H : X d m (pc + 1) L (J (lShl a b) :: st) h Q) : X d m pc L (I b :: J a :: st) h Q := X_in hc (fun w hw => H w hw)
theorem s_lshr {a b : Int} (hc : cdA m pc = some .lshr) (H : X d m (pc + 1) L (J (lShr a b) :: st) h Q) : X d m pc L (I b :: J a :: st) h Q := X_in hc (fun w hw => H w hw)
theorem s_lushr {a b : Int} (hc : cdA m pc = some .lushr) (H : X d m (pc + 1) L (J (lUsh a b) :: st) h Q) : X d m pc L (I b :: J a :: st) h Q := X_in hc (fun w hw => H w hw)
theorem s_i2l {a : Int} (hc : cdA m pc = some .i2l) (H : X d m (pc + 1) L (J a :: st) h Q) : X d m pc L (I a :: st) h Q := X_in hc (fun w hw => H w hw)
theorem s_l2i {a : Int} (hc : cdA m pc = some .l2i) (H : X d m (pc + 1) L (I (w32 a) :: st) h Q) : X d m pc L (J a :: st) h Q := X_in hc (fun w hw => H w hw)
theorem s_dupI {a : Int} (hc : cdA m pc = some .dup) (H : X d m (pc + 1) L (I a :: I a :: st) h Q) : X d m pc L (I a :: st) h Q := X_in hc (fun w hw => ⟨rfl, H w hw⟩)
theorem s_dupP {a : Nat} (hc : cdA m pc = some .dup) (H : X d m (pc + 1) L (P a :: P a :: st) h Q) : X d m pc L (P a :: st) h Q := X_in hc (fun w hw => ⟨rfl, H w hw⟩)
theorem s_pop {a : Int} (hc : cdA m pc = some .pop) (H : X d m (pc + 1) L st h Q) : X d m pc L (I a :: st) h Q := X_in hc (fun w hw => ⟨rfl, H w hw⟩)
theorem s_dup2 {a : Int} {p : Nat} (hc : cdA m pc = some .dup2) (H : X d m (pc + 1) L (I a :: P p :: I a :: P p :: st) h Q) : X d m pc L (I a :: P p :: st) h Q := X_in hc (fun w hw => ⟨⟨rfl, rfl⟩, H w hw⟩)
theorem s_goto {off : Int} (t : Nat) (hc : cdA m pc = some (.goto off)) (ht : (pc : Int) + off = (t : Int)) (H : X d m t L st h Q) : X d m pc L st h Q := X_in hc (fun w hw => ⟨by omega, by rw [ht]; exact H w hw⟩)
theorem X_br {c : Prop} {off : Int} {t : Nat} (ht : (pc : Int) + off = (t : Int)) (H1 : c → X d m t L st h Q) (H2 : ¬ c → X d m (pc + 3) L st h Q) {w : WD} (hw : wOK w) : brn pc off c (fun t => WP S0 d m t L st (0, 0) w h (fun r w' h' => wOK w' ∧ Q r h')) (WP S0 d m (pc + 3) L st (0, 0) w h (fun r w' h' => wOK w' ∧ Q r h')) := ⟨by omega, fun q => by rw [ht]; exact H1 q w hw, fun q => H2 q w hw⟩
theorem s_if {cd : Jvm.ClassFile.Cond} {off a : Int} (t : Nat) (c : Prop) (hc : cdA m pc = some (.ifCond cd off)) (ht : (pc : Int) + off = (t : Int)) (hcc : cnd cd a 0 = c) (H : (c → X d m t L st h Q) ∧ (¬ c → X d m (pc + 3) L st h Q)) : X d m pc L (I a :: st) h Q := X_in hc (fun w hw => by subst hcc; exact X_br ht H.1 H.2 hw)
theorem s_ifc {cd : Jvm.ClassFile.Cond} {off a b : Int} (t : Nat) (c : Prop) (hc : cdA m pc = some (.if_icmp cd off)) (ht : (pc : Int) + off = (t : Int)) (hcc : cnd cd a b = c) (H : (c → X d m t L st h Q) ∧ (¬ c → X d m (pc + 3) L st h Q)) : X d m pc L (I b :: I a :: st) h Q := X_in hc (fun w hw => by subst hcc; exact X_br ht H.1 H.2 hw)
theorem s_tsw {df lo hi : Int} {offs : Array Int} {x : Int} (t : Nat) (hc : cdA m pc = some (.tableswitch df lo hi offs)) (ht : (pc : Int) + df = (t : Int)) (H1 : (x < lo ∨ hi < x) → X d m t L st h Q) (H2 : ¬ (x < lo ∨ hi < x) → ∃ (off : Int) (u : Nat), offs[(x - lo).toNat]? = some off ∧ (pc : Int) + off = (u : Int) ∧ X d m u L st h Q) : X d m pc L (I x :: st) h Q :=
  X_in hc (fun w hw => ⟨fun q => ⟨by omega, by rw [ht]; exact H1 q w hw⟩, fun q => by
    obtain ⟨off, u, h1, h2, h3⟩ := H2 q
    exact ⟨off, h1, by omega, by rw [h2]; exact h3 w hw⟩⟩)
theorem s_getI {j ci kk p : Nat} (hc : cdA m pc = some (.getfield j)) (hf : fldR (moN m) j = some (ci, kk)) (ht : fcl ci kk = 0) (hs : SH0[p]? = some (.inl ci)) (H : X d m (pc + 3) L (I (h p kk) :: st) h Q) : X d m pc L (P p :: st) h Q := X_in hc (fun w hw => by
  unfold stp; dsimp only; unfold gtF; rw [hf]; refine ⟨by rw [hw.1]; exact hs, ?_⟩; rw [ht]; exact H w hw)
theorem s_getZ {j ci kk p : Nat} (hc : cdA m pc = some (.getfield j)) (hf : fldR (moN m) j = some (ci, kk)) (ht : fcl ci kk = 3) (hs : SH0[p]? = some (.inl ci)) (H : X d m (pc + 3) L (I (h p kk) :: st) h Q) : X d m pc L (P p :: st) h Q := X_in hc (fun w hw => by
  unfold stp; dsimp only; unfold gtF; rw [hf]; refine ⟨by rw [hw.1]; exact hs, ?_⟩; rw [ht]; exact H w hw)
theorem s_getJ {j ci kk p : Nat} (hc : cdA m pc = some (.getfield j)) (hf : fldR (moN m) j = some (ci, kk)) (ht : fcl ci kk = 1) (hs : SH0[p]? = some (.inl ci)) (H : X d m (pc + 3) L (J (h p kk) :: st) h Q) : X d m pc L (P p :: st) h Q := X_in hc (fun w hw => by
  unfold stp; dsimp only; unfold gtF; rw [hf]; refine ⟨by rw [hw.1]; exact hs, ?_⟩; rw [ht]; exact H w hw)
theorem s_getP {j ci kk p : Nat} (q : Nat) (hc : cdA m pc = some (.getfield j)) (hf : fldR (moN m) j = some (ci, kk)) (ht : fcl ci kk = 2) (hs : SH0[p]? = some (.inl ci)) (hg : G0 p kk = q + 1) (hp : p < 124) (hk : kk < 93) (H : X d m (pc + 3) L (P q :: st) h Q) : X d m pc L (P p :: st) h Q := X_in hc (fun w hw => by
  unfold stp; dsimp only; unfold gtF; rw [hf]; refine ⟨by rw [hw.1]; exact hs, ?_⟩; rw [ht, hw.2 p kk hp hk, hg]; exact H w hw)
theorem s_putI {j ci kk p : Nat} {v : Int} (hc : cdA m pc = some (.putfield j)) (hf : fldR (moN m) j = some (ci, kk)) (ht : fcl ci kk = 0) (hg : ffin ci kk = false) (hs : SH0[p]? = some (.inl ci)) (H : X d m (pc + 3) L st (up2 h p kk v) Q) : X d m pc L (I v :: P p :: st) h Q := X_in hc (fun w hw => by
  unfold stp; dsimp only; unfold ptF; rw [hf]; refine ⟨by unfold gdP; rw [hg]; rfl, ?_⟩; rw [ht]; exact ⟨by rw [hw.1]; exact hs, H w hw⟩)
theorem s_putZ {j ci kk p : Nat} {v : Int} (hc : cdA m pc = some (.putfield j)) (hf : fldR (moN m) j = some (ci, kk)) (ht : fcl ci kk = 3) (hg : ffin ci kk = false) (hs : SH0[p]? = some (.inl ci)) (hv : v = 0 ∨ v = 1) (H : X d m (pc + 3) L st (up2 h p kk v) Q) : X d m pc L (I v :: P p :: st) h Q := X_in hc (fun w hw => by
  unfold stp; dsimp only; unfold ptF; rw [hf]; refine ⟨by unfold gdP; rw [hg]; rfl, ?_⟩; rw [ht]; exact ⟨by rw [hw.1]; exact hs, hv, H w hw⟩)
theorem s_putJ {j ci kk p : Nat} {v : Int} (hc : cdA m pc = some (.putfield j)) (hf : fldR (moN m) j = some (ci, kk)) (ht : fcl ci kk = 1) (hg : ffin ci kk = false) (hs : SH0[p]? = some (.inl ci)) (H : X d m (pc + 3) L st (up2 h p kk v) Q) : X d m pc L (J v :: P p :: st) h Q := X_in hc (fun w hw => by
  unfold stp; dsimp only; unfold ptF; rw [hf]; refine ⟨by unfold gdP; rw [hg]; rfl, ?_⟩; rw [ht]; exact ⟨by rw [hw.1]; exact hs, H w hw⟩)
theorem al_in {w : WD} {p t n : Nat} {f : Nat → Prop} (hw : wOK w) (hs : SH0[p]? = some (.inr (t, n))) (H : f n) : alen w p t f := by unfold alen; rw [hw.1, hs]; exact ⟨rfl, H⟩
theorem s_iald {p n : Nat} {i : Int} (hc : cdA m pc = some .iaload) (hs : SH0[p]? = some (.inr (0, n))) (H : (0 ≤ i ∧ i < n) ∧ X d m (pc + 1) L (I (h p i.toNat) :: st) h Q) : X d m pc L (I i :: P p :: st) h Q := X_in hc (fun w hw => al_in hw hs ⟨H.1, H.2 w hw⟩)
theorem s_bald {p n : Nat} {i : Int} (hc : cdA m pc = some .baload) (hs : SH0[p]? = some (.inr (1, n))) (H : (0 ≤ i ∧ i < n) ∧ X d m (pc + 1) L (I (h p i.toNat) :: st) h Q) : X d m pc L (I i :: P p :: st) h Q := X_in hc (fun w hw => al_in hw hs ⟨H.1, H.2 w hw⟩)
theorem s_lald {p n : Nat} {i : Int} (hc : cdA m pc = some .laload) (hs : SH0[p]? = some (.inr (2, n))) (H : (0 ≤ i ∧ i < n) ∧ X d m (pc + 1) L (J (h p i.toNat) :: st) h Q) : X d m pc L (I i :: P p :: st) h Q := X_in hc (fun w hw => al_in hw hs ⟨H.1, H.2 w hw⟩)
theorem s_iast {p n : Nat} {i v : Int} (hc : cdA m pc = some .iastore) (hs : SH0[p]? = some (.inr (0, n))) (H : (0 ≤ i ∧ i < n) ∧ X d m (pc + 1) L st (up2 h p i.toNat v) Q) : X d m pc L (I v :: I i :: P p :: st) h Q := X_in hc (fun w hw => al_in hw hs ⟨H.1, H.2 w hw⟩)
theorem s_bast {p n : Nat} {i v : Int} (hc : cdA m pc = some .bastore) (hs : SH0[p]? = some (.inr (1, n))) (H : (0 ≤ i ∧ i < n) ∧ (v = 0 ∨ v = 1) ∧ X d m (pc + 1) L st (up2 h p i.toNat v) Q) : X d m pc L (I v :: I i :: P p :: st) h Q := X_in hc (fun w hw => al_in hw hs ⟨H.1, H.2.1, H.2.2 w hw⟩)
theorem s_last {p n : Nat} {i v : Int} (hc : cdA m pc = some .lastore) (hs : SH0[p]? = some (.inr (2, n))) (H : (0 ≤ i ∧ i < n) ∧ X d m (pc + 1) L st (up2 h p i.toNat v) Q) : X d m pc L (J v :: I i :: P p :: st) h Q := X_in hc (fun w hw => al_in hw hs ⟨H.1, H.2 w hw⟩)
theorem s_alen {p t n : Nat} (hc : cdA m pc = some .arraylength) (hs : SH0[p]? = some (.inr (t, n))) (hn : t ≤ 2 ∧ n < 2147483648) (H : X d m (pc + 1) L (I n :: st) h Q) : X d m pc L (P p :: st) h Q := X_in hc (fun w hw => by
  unfold stp; dsimp only; unfold aln; dsimp only; rw [hw.1, hs]; exact ⟨hn, H w hw⟩)
theorem s_retI {a : Int} (hc : cdA m pc = some .ireturn) (hk : mK m = 0) (H : Q (I a) h) : X d m pc L [I a] h Q := X_in hc (fun w hw => ⟨Or.inl hk, hw, H⟩)
theorem s_retZ {a : Int} (hc : cdA m pc = some .ireturn) (hk : mK m = 3) (H : (a = 0 ∨ a = 1) ∧ Q (I a) h) : X d m pc L [I a] h Q := X_in hc (fun w hw => ⟨Or.inr ⟨hk, H.1⟩, hw, H.2⟩)
theorem s_retJ {a : Int} (hc : cdA m pc = some .lreturn) (hk : mK m = 1) (H : Q (J a) h) : X d m pc L [J a] h Q := X_in hc (fun w hw => ⟨hk, hw, H⟩)
theorem s_retV (hc : cdA m pc = some .return_) (hk : mK m = 4) (H : Q (I 0) h) : X d m pc L [] h Q := X_in hc (fun w hw => ⟨hk, hw, H⟩)
theorem s_acp {n dp sp : Int} {p q n0 n1 : Nat} {j : Nat} {rest : List PV} (hc : cdA m pc = some (.invokestatic j)) (hm : mthR (moN m) j = 2) (h0 : SH0[p]? = some (.inr (0, n0))) (h1 : SH0[q]? = some (.inr (0, n1))) (h8 : cat8 rest = true) (H : (0 ≤ sp ∧ 0 ≤ dp ∧ 0 ≤ n ∧ sp + n ≤ n0 ∧ dp + n ≤ n1) ∧ X d m (pc + 3) L rest (cpy h p q sp.toNat dp.toNat n.toNat) Q) : X d m pc L (I n :: I dp :: P q :: I sp :: P p :: rest) h Q := X_in hc (fun w hw => by
  unfold stp; dsimp only; rw [hm]; exact al_in hw h0 (al_in hw h1 ⟨H.1, h8, H.2 w hw⟩))
theorem gdC_0 {μ ν : Nat} {inst : Bool} {st rest : List PV} (h1 : mA ν ≤ st.length) (h2 : mS ν = !inst) (h3 : cat8 rest = true) (h4 : mcO ν = 0) (h5 : msO ν = 0) : gdC μ ν inst st rest (0, 0) = true := by
  unfold gdC
  rw [h2, h3, h4, h5]
  simp [Nat.ble_eq]
  exact h1
/-- what a call asks of the called method: parameters, locals, no cells made -/
def mF (ν n l : Nat) (inst : Bool) : Prop := mA ν = n ∧ mL ν = l ∧ mS ν = !inst ∧ mcO ν = 0 ∧ msO ν = 0 ∧ (mY ν).name ≠ "<init>"
theorem X_call {ν : Nat} {as : List PV} {K : PV → HP → Prop} {F : PV → WD → HP → Prop} {w : WD} (hw : wOK w) (hi : iniOk (mL ν) as = true) (H : X d ν 0 (iniL (mL ν) as) [] h K) (hK : ∀ r w h, wOK w → K r h → F r w h) : clF WP (d + 1) ν as w h F :=
  ⟨hi, WP_mono (H w hw) (fun r w h q => hK r w h q.1 q.2)⟩
theorem s_cVi {ν n l j p : Nat} {rest : List PV} (hc : cdA m pc = some (.invokevirtual j)) (hm : mthR (moN m) j = ν + 3) (hF : mF ν n l true) (hk : ¬ mK ν = 4) (hd : st.drop n = P p :: rest) (hn : n ≤ st.length) (h8 : cat8 rest = true) (hs : SH0[p]? = some (.inl (moN ν))) (hi : iniOk l (P p :: (st.take n).reverse) = true) (H : X d ν 0 (iniL l (P p :: (st.take n).reverse)) [] h (fun r h' => X (d + 1) m (pc + 3) L (r :: rest) h' Q)) : X (d + 1) m pc L st h Q := X_in hc (fun w hw => by
  obtain ⟨e1, e2, e3, e4, e5, e6⟩ := hF
  unfold stp; dsimp only; rw [hm]; dsimp only
  refine ⟨e6, ?_⟩
  unfold ivR; rw [e1, hd]
  refine ⟨by rw [hw.1]; exact hs, gdC_0 (by rw [e1]; exact hn) e3 h8 e4 e5, X_call hw (by rw [e2]; exact hi) (by rw [e2]; exact H) (fun r w h hw q => ?_)⟩
  rw [e4, e5]; unfold psh; rw [if_neg hk]; exact q w hw)
theorem s_cVv {ν n l j p : Nat} {rest : List PV} (hc : cdA m pc = some (.invokevirtual j)) (hm : mthR (moN m) j = ν + 3) (hF : mF ν n l true) (hk : mK ν = 4) (hd : st.drop n = P p :: rest) (hn : n ≤ st.length) (h8 : cat8 rest = true) (hs : SH0[p]? = some (.inl (moN ν))) (hi : iniOk l (P p :: (st.take n).reverse) = true) (H : X d ν 0 (iniL l (P p :: (st.take n).reverse)) [] h (fun _ h' => X (d + 1) m (pc + 3) L rest h' Q)) : X (d + 1) m pc L st h Q := X_in hc (fun w hw => by
  obtain ⟨e1, e2, e3, e4, e5, e6⟩ := hF
  unfold stp; dsimp only; rw [hm]; dsimp only
  refine ⟨e6, ?_⟩
  unfold ivR; rw [e1, hd]
  refine ⟨by rw [hw.1]; exact hs, gdC_0 (by rw [e1]; exact hn) e3 h8 e4 e5, X_call hw (by rw [e2]; exact hi) (by rw [e2]; exact H) (fun r w h hw q => ?_)⟩
  rw [e4, e5]; unfold psh; rw [if_pos hk]; exact q w hw)
theorem s_cSi {ν n l j : Nat} {rest : List PV} (hc : cdA m pc = some (.invokestatic j)) (hm : mthR (moN m) j = ν + 3) (hF : mF ν n l false) (hk : ¬ mK ν = 4) (hd : st.drop n = rest) (hn : n ≤ st.length) (h8 : cat8 rest = true) (hi : iniOk l (st.take n).reverse = true) (H : X d ν 0 (iniL l (st.take n).reverse) [] h (fun r h' => X (d + 1) m (pc + 3) L (r :: rest) h' Q)) : X (d + 1) m pc L st h Q := X_in hc (fun w hw => by
  obtain ⟨e1, e2, e3, e4, e5, e6⟩ := hF
  unfold stp; dsimp only; rw [hm]; dsimp only
  unfold ivS; rw [e1, hd]
  refine ⟨gdC_0 (by rw [e1]; exact hn) e3 h8 e4 e5, X_call hw (by rw [e2]; exact hi) (by rw [e2]; exact H) (fun r w h hw q => ?_)⟩
  rw [e4, e5]; unfold psh; rw [if_neg hk]; exact q w hw)
theorem s_cSv {ν n l j : Nat} {rest : List PV} (hc : cdA m pc = some (.invokestatic j)) (hm : mthR (moN m) j = ν + 3) (hF : mF ν n l false) (hk : mK ν = 4) (hd : st.drop n = rest) (hn : n ≤ st.length) (h8 : cat8 rest = true) (hi : iniOk l (st.take n).reverse = true) (H : X d ν 0 (iniL l (st.take n).reverse) [] h (fun _ h' => X (d + 1) m (pc + 3) L rest h' Q)) : X (d + 1) m pc L st h Q := X_in hc (fun w hw => by
  obtain ⟨e1, e2, e3, e4, e5, e6⟩ := hF
  unfold stp; dsimp only; rw [hm]; dsimp only
  unfold ivS; rw [e1, hd]
  refine ⟨gdC_0 (by rw [e1]; exact hn) e3 h8 e4 e5, X_call hw (by rw [e2]; exact hi) (by rw [e2]; exact H) (fun r w h hw q => ?_)⟩
  rw [e4, e5]; unfold psh; rw [if_pos hk]; exact q w hw)
end RULES
