/-! an answer's tag; rules of the law's own frame -/
def tagO (μ : Nat) (r : PV) : Prop := ((mK μ = 0 ∨ mK μ = 3) → ∃ a, r = I a) ∧ (mK μ = 1 → ∃ a, r = J a)
theorem WP_tag {S : SC} {d μ pc : Nat} {L : LSt} {st : List PV} {k : Nat × Nat} {w : WD} {h : HP} {Q : KK} (H : WP S d μ pc L st k w h Q) : WP S d μ pc L st k w h (fun r w h => Q r w h ∧ tagO μ r) := by
  refine H (fun S d μ pc L st k w h Q => WP S d μ pc L st k w h (fun r w h => Q r w h ∧ tagO μ r)) (fun S d μ pc L st k w h Q Q' hQ H => WP_mono H (fun r w h q => ⟨hQ _ _ _ q.1, q.2⟩)) ?_
  intro S d μ pc L st k w h Q H
  refine WP_in ?_
  unfold STF at *
  split at H
  · exact H.elim
  · rename_i i e
    have hcc : ∀ ν as w h (K K' : KK), (∀ r w h, K r w h → K' r w h) → clF (fun S d μ pc L st k w h Q => WP S d μ pc L st k w h (fun r w h => Q r w h ∧ tagO μ r)) d ν as w h K → clF WP d ν as w h K' := by
      intro ν as w h K K' hK H
      cases d with
      | zero => exact H
      | succ d => exact ⟨H.1, WP_mono H.2 (fun r w h q => hK _ _ _ q.1)⟩
    cases i
    case ireturn =>
      unfold stp at *; revert H; dsimp only; split
      · exact fun H => ⟨H.1, H.2, fun _ => ⟨_, rfl⟩, fun q => by rcases H.1 with z | z <;> (first | rw [z] at q | rw [z.1] at q) <;> cases q⟩
      · exact id
    case lreturn =>
      unfold stp at *; revert H; dsimp only; split
      · exact fun H => ⟨H.1, H.2, fun q => by rcases q with q | q <;> (rw [H.1] at q; cases q), fun _ => ⟨_, rfl⟩⟩
      · exact id
    case return_ =>
      unfold stp at *; revert H; dsimp only; split
      · exact fun H => ⟨H.1, H.2, fun _ => ⟨_, rfl⟩, fun q => by rw [H.1] at q; cases q⟩
      · exact id
    case newarray t =>
      cases t <;> exact stp_m (Q := fun r w h => Q r w h ∧ tagO μ r) (fun _ _ _ _ _ _ H => H) hcc (fun _ _ _ H => H) H
    all_goals exact stp_m (Q := fun r w h => Q r w h ∧ tagO μ r) (fun _ _ _ _ _ _ H => H) hcc (fun _ _ _ H => H) H
theorem X_tag {d m pc : Nat} {L : LSt} {st : List PV} {h : HP} {Q : PV → HP → Prop} (H : X d m pc L st h Q) : X d m pc L st h (fun r h => Q r h ∧ tagO m r) := fun w hw => WP_mono (WP_tag (H w hw)) (fun r w h q => ⟨q.1.1, q.1.2, q.2⟩)
theorem mm_lawK : mK 227 = 3 := by decide +kernel
/-- the law's own frame, behind the constructors -/
def Y (S : SC) (pc : Nat) (L : LSt) (st : List PV) (h : HP) : Prop := ∀ w, wOK w → WP S 64 227 pc L st kL w h (fun r _ _ => r = I 1)
abbrev PX : PV := .inr (.inr (.inr ()))
section YR
variable {S : SC} {pc : Nat} {L : LSt} {st : List PV} {h : HP}
theorem Y_in {i : Jvm.ClassFile.Instr} (hc : cdA 227 pc = some i) (H : ∀ w, wOK w → stp S 227 pc i L st kL w h (fun r _ _ => r = I 1) (fun pc L st k w h => WP S 64 227 pc L st k w h (fun r _ _ => r = I 1)) (clF WP 64)) : Y S pc L st h :=
  fun w hw => WP_in (by unfold STF; rw [hc]; exact H w hw)
theorem y_iconst {n : Int} (hc : cdA 227 pc = some (.iconst n)) (hn : w32 n = n) (H : Y S (pc + 1) L (I n :: st) h) : Y S pc L st h := Y_in hc (fun w hw => ⟨hn, H w hw⟩)
theorem y_bipush {n : Int} (hc : cdA 227 pc = some (.bipush n)) (hn : -128 ≤ n ∧ n ≤ 127) (H : Y S (pc + 2) L (I n :: st) h) : Y S pc L st h := Y_in hc (fun w hw => ⟨hn, H w hw⟩)
theorem y_ldc2 {j : Nat} {v : Int} (hc : cdA 227 pc = some (.ldc2_w j)) (hv : lcsR (moN 227) j = some v) (hn : w64 v = v) (H : Y S (pc + 3) L (J v :: st) h) : Y S pc L st h := Y_in hc (fun w hw => by unfold stp; dsimp only; rw [hv]; exact ⟨hn, H w hw⟩)
theorem y_iload {j : Fin 4} {a : Int} (hc : cdA 227 pc = some (.iload_n j)) (hl : L[(j : Nat)]? = some (some (I a))) (H : Y S (pc + 1) L (I a :: st) h) : Y S pc L st h := Y_in hc (fun w hw => by show ldI L j _; unfold ldI; rw [hl]; exact H w hw)
theorem y_aload {j : Fin 4} {p : Nat} (hc : cdA 227 pc = some (.aload_n j)) (hl : L[(j : Nat)]? = some (some (P p))) (H : Y S (pc + 1) L (P p :: st) h) : Y S pc L st h := Y_in hc (fun w hw => by unfold stp; dsimp only; unfold ldA; rw [hl]; exact H w hw)
theorem y_aloadX {j : Fin 4} (hc : cdA 227 pc = some (.aload_n j)) (hl : L[(j : Nat)]? = some (some PX)) (H : Y S (pc + 1) L (PX :: st) h) : Y S pc L st h := Y_in hc (fun w hw => by unfold stp; dsimp only; unfold ldA; rw [hl]; exact H w hw)
theorem y_iadd {a b : Int} (hc : cdA 227 pc = some .iadd) (H : Y S (pc + 1) L (I (w32 (a + b)) :: st) h) : Y S pc L (I b :: I a :: st) h := Y_in hc (fun w hw => H w hw)
theorem y_isub {a b : Int} (hc : cdA 227 pc = some .isub) (H : Y S (pc + 1) L (I (w32 (a - b)) :: st) h) : Y S pc L (I b :: I a :: st) h := Y_in hc (fun w hw => H w hw)
theorem y_iand {a b : Int} (hc : cdA 227 pc = some .iand) (H : Y S (pc + 1) L (I (bAnd a b) :: st) h) : Y S pc L (I b :: I a :: st) h := Y_in hc (fun w hw => H w hw)
theorem y_i2l {a : Int} (hc : cdA 227 pc = some .i2l) (H : Y S (pc + 1) L (J a :: st) h) : Y S pc L (I a :: st) h := Y_in hc (fun w hw => H w hw)
theorem y_lshl {a b : Int} (hc : cdA 227 pc = some .lshl) (H : Y S (pc + 1) L (J (lShl a b) :: st) h) : Y S pc L (I b :: J a :: st) h := Y_in hc (fun w hw => H w hw)
theorem y_land {a b : Int} (hc : cdA 227 pc = some .land) (H : Y S (pc + 1) L (J (lAnd a b) :: st) h) : Y S pc L (J b :: J a :: st) h := Y_in hc (fun w hw => H w hw)
theorem y_lor {a b : Int} (hc : cdA 227 pc = some .lor) (H : Y S (pc + 1) L (J (lOr a b) :: st) h) : Y S pc L (J b :: J a :: st) h := Y_in hc (fun w hw => H w hw)
theorem y_lcmp {a b : Int} (hc : cdA 227 pc = some .lcmp) (H : Y S (pc + 1) L (I (if b < a then 1 else if a = b then 0 else -1) :: st) h) : Y S pc L (J b :: J a :: st) h := Y_in hc (fun w hw => H w hw)
theorem y_iinc {j : Nat} {n a : Int} (hc : cdA 227 pc = some (.iinc j n)) (hl : L[j]? = some (some (I a))) (hn : w32 n = n) (hj : (Nat.blt j L.length && noJ L j) = true) (H : Y S (pc + 3) (L.set j (some (I (w32 (a + n))))) st h) : Y S pc L st h := Y_in hc (fun w hw => by show ldI L j _; unfold ldI; rw [hl]; exact ⟨hn, hj, H w hw⟩)
theorem y_goto {off : Int} (t : Nat) (hc : cdA 227 pc = some (.goto off)) (ht : (pc : Int) + off = (t : Int)) (H : Y S t L st h) : Y S pc L st h := Y_in hc (fun w hw => ⟨by omega, by rw [ht]; exact H w hw⟩)
theorem Y_br {c : Prop} {off : Int} {t : Nat} (ht : (pc : Int) + off = (t : Int)) (H1 : c → Y S t L st h) (H2 : ¬ c → Y S (pc + 3) L st h) {w : WD} (hw : wOK w) : brn pc off c (fun t => WP S 64 227 t L st kL w h (fun r _ _ => r = I 1)) (WP S 64 227 (pc + 3) L st kL w h (fun r _ _ => r = I 1)) := ⟨by omega, fun q => by rw [ht]; exact H1 q w hw, fun q => H2 q w hw⟩
theorem y_if {cd : Jvm.ClassFile.Cond} {off a : Int} (t : Nat) (c : Prop) (hc : cdA 227 pc = some (.ifCond cd off)) (ht : (pc : Int) + off = (t : Int)) (hcc : cnd cd a 0 = c) (H1 : c → Y S t L st h) (H2 : ¬ c → Y S (pc + 3) L st h) : Y S pc L (I a :: st) h := Y_in hc (fun w hw => by subst hcc; exact Y_br ht H1 H2 hw)
theorem y_ifc {cd : Jvm.ClassFile.Cond} {off a b : Int} (t : Nat) (c : Prop) (hc : cdA 227 pc = some (.if_icmp cd off)) (ht : (pc : Int) + off = (t : Int)) (hcc : cnd cd a b = c) (H1 : c → Y S t L st h) (H2 : ¬ c → Y S (pc + 3) L st h) : Y S pc L (I b :: I a :: st) h := Y_in hc (fun w hw => by subst hcc; exact Y_br ht H1 H2 hw)
theorem y_tsw {df lo hi : Int} {offs : Array Int} {x : Int} (t : Nat) (hc : cdA 227 pc = some (.tableswitch df lo hi offs)) (ht : (pc : Int) + df = (t : Int)) (H1 : (x < lo ∨ hi < x) → Y S t L st h) (H2 : ¬ (x < lo ∨ hi < x) → ∃ (off : Int) (u : Nat), offs[(x - lo).toNat]? = some off ∧ (pc : Int) + off = (u : Int) ∧ Y S u L st h) : Y S pc L (I x :: st) h :=
  Y_in hc (fun w hw => ⟨fun q => ⟨by omega, by rw [ht]; exact H1 q w hw⟩, fun q => by
    obtain ⟨off, u, h1, h2, h3⟩ := H2 q
    exact ⟨off, h1, by omega, by rw [h2]; exact h3 w hw⟩⟩)
theorem y_sld {n : Nat} {i : Int} (hS : S.1 = n + 1) (hc : cdA 227 pc = some .iaload) (hi : 0 ≤ i ∧ i < n) (H : Y S (pc + 1) L (I (S.2 i.toNat) :: st) h) : Y S pc L (I i :: PX :: st) h := Y_in hc (fun w hw => by
  unfold stp; dsimp only; unfold ald; unfold i1; dsimp only; rw [hS]; exact ⟨hi, H w hw⟩)
theorem y_slen {n : Nat} (hS : S.1 = n + 1) (hc : cdA 227 pc = some .arraylength) (hn : n < 2147483648) (H : Y S (pc + 1) L (I n :: st) h) : Y S pc L (PX :: st) h := Y_in hc (fun w hw => by
  unfold stp; dsimp only; unfold aln; dsimp only; rw [hS]; exact ⟨hn, H w hw⟩)
theorem y_ret (hc : cdA 227 pc = some .ireturn) : Y S pc L [I 1] h := Y_in hc (fun w hw => ⟨Or.inr ⟨mm_lawK, Or.inr rfl⟩, rfl⟩)
theorem y_call {ν n l j p : Nat} {rest : List PV} (hc : cdA 227 pc = some (.invokevirtual j)) (hm : mthR (moN 227) j = ν + 3) (hF : mF ν n l true) (hk : ¬ mK ν = 4) (hd : st.drop n = P p :: rest) (hn : n ≤ st.length) (h8 : cat8 rest = true) (hs : SH0[p]? = some (.inl (moN ν))) (hi : iniOk l (P p :: (st.take n).reverse) = true)
    (H : X 63 ν 0 (iniL l (P p :: (st.take n).reverse)) [] h (fun r h' => Y S (pc + 3) L (r :: rest) h')) : Y S pc L st h := Y_in hc (fun w hw => by
  obtain ⟨e1, e2, e3, e4, e5, e6⟩ := hF
  unfold stp; dsimp only; rw [hm]; dsimp only
  refine ⟨e6, ?_⟩
  unfold ivR; rw [e1, hd]
  refine ⟨by rw [hw.1]; exact hs, ?_, X_call hw (by rw [e2]; exact hi) (by rw [e2]; exact H) (fun r w h hw q => ?_)⟩
  · unfold gdC; rw [e1, e3, h8, e4, e5]; simp only [Bool.not_true, beq_self_eq_true, Bool.and_true, Nat.add_zero, Bool.and_eq_true]
    exact ⟨⟨Nat.ble_eq_true_of_le hn, by decide +kernel⟩, by decide +kernel⟩
  · rw [e4, e5]; unfold psh; rw [if_neg hk]; exact q w hw)
end YR
