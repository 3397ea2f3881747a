/-! the instructions are monotone; WP is a fixpoint -/
theorem an_r {a b c : Prop} (f : b → c) (h : a ∧ b) : a ∧ c := ⟨h.1, f h.2⟩
theorem ldI_m {L : LSt} {i : Nat} {f g : Int → Prop} (hf : ∀ a, f a → g a) (H : ldI L i f) : ldI L i g := by
  unfold ldI at *; revert H; split
  · exact hf _
  · exact id
theorem ldJ_m {L : LSt} {i : Nat} {f g : Int → Prop} (hf : ∀ a, f a → g a) (H : ldJ L i f) : ldJ L i g := by
  unfold ldJ at *; revert H; split
  · exact hf _
  · exact id
theorem ldA_m {L : LSt} {i : Nat} {f g : PV → Prop} (hf : ∀ a, f a → g a) (H : ldA L i f) : ldA L i g := by
  unfold ldA at *; revert H; split
  · exact hf _
  · exact id
theorem stV_m {L : LSt} {i : Nat} {v : PV} {f g : LSt → Prop} (hf : ∀ a, f a → g a) (H : stV L i v f) : stV L i v g := an_r (hf _) H
theorem i1_m {st : List PV} {f g : Int → List PV → Prop} (hf : ∀ a s, f a s → g a s) (H : i1 st f) : i1 st g := by
  unfold i1 at *; revert H; split
  · exact hf _ _
  · exact id
theorem j1_m {st : List PV} {f g : Int → List PV → Prop} (hf : ∀ a s, f a s → g a s) (H : j1 st f) : j1 st g := by
  unfold j1 at *; revert H; split
  · exact hf _ _
  · exact id
theorem r1_m {st : List PV} {f g : Nat → List PV → Prop} (hf : ∀ a s, f a s → g a s) (H : r1 st f) : r1 st g := by
  unfold r1 at *; revert H; split
  · exact hf _ _
  · exact id
theorem a1_m {st : List PV} {f g : PV → List PV → Prop} (hf : ∀ a s, f a s → g a s) (H : a1 st f) : a1 st g := by
  unfold a1 at *; revert H; split
  · exact hf _ _
  · exact id
theorem i2_m {st : List PV} {f g : Int → Int → List PV → Prop} (hf : ∀ a b s, f a b s → g a b s) (H : i2 st f) : i2 st g := by
  unfold i2 at *; revert H; split
  · exact hf _ _ _
  · exact id
theorem j2_m {st : List PV} {f g : Int → Int → List PV → Prop} (hf : ∀ a b s, f a b s → g a b s) (H : j2 st f) : j2 st g := by
  unfold j2 at *; revert H; split
  · exact hf _ _ _
  · exact id
theorem ji_m {st : List PV} {f g : Int → Int → List PV → Prop} (hf : ∀ a b s, f a b s → g a b s) (H : ji st f) : ji st g := by
  unfold ji at *; revert H; split
  · exact hf _ _ _
  · exact id
theorem alen_m {w : WD} {p t : Nat} {f g : Nat → Prop} (hf : ∀ n, f n → g n) (H : alen w p t f) : alen w p t g := by
  unfold alen at *; revert H; split
  · exact an_r (hf _)
  · exact id
theorem jmp_m {pc : Nat} {off : Int} {f g : Nat → Prop} (hf : ∀ n, f n → g n) (H : jmp pc off f) : jmp pc off g := an_r (hf _) H
theorem brn_m {pc : Nat} {off : Int} {c : Prop} {f f' : Nat → Prop} {g g' : Prop} (hf : ∀ t, f t → f' t) (hg : g → g') (H : brn pc off c f g) : brn pc off c f' g' := ⟨H.1, fun q => hf _ (H.2.1 q), fun q => hg (H.2.2 q)⟩
section MONO
variable {nx nx' : NX} {cl cl' : CLT} {Q Q' : KK} {L : LSt} {st : List PV} {k : Nat × Nat} {w : WD} {h : HP} {S : SC} {μ ν pc : Nat}
theorem ivR_m (hn : ∀ pc L st k w h, nx pc L st k w h → nx' pc L st k w h) (hc : ∀ ν as w h (K K' : KK), (∀ r w h, K r w h → K' r w h) → cl ν as w h K → cl' ν as w h K') (H : ivR μ ν pc L st k w h nx cl) : ivR μ ν pc L st k w h nx' cl' :=
  r1_m (fun _ _ H => ⟨H.1, H.2.1, hc _ _ _ _ _ _ (fun _ _ _ H => hn _ _ _ _ _ _ H) H.2.2⟩) H
theorem ivS_m (hn : ∀ pc L st k w h, nx pc L st k w h → nx' pc L st k w h) (hc : ∀ ν as w h (K K' : KK), (∀ r w h, K r w h → K' r w h) → cl ν as w h K → cl' ν as w h K') (H : ivS μ ν pc L st k w h nx cl) : ivS μ ν pc L st k w h nx' cl' :=
  ⟨H.1, hc _ _ _ _ _ _ (fun _ _ _ H => hn _ _ _ _ _ _ H) H.2⟩
theorem acp_m (hn : ∀ pc L st k w h, nx pc L st k w h → nx' pc L st k w h) (H : acp pc L st k w h nx) : acp pc L st k w h nx' := by
  unfold acp at *; revert H; split
  · exact alen_m (fun _ => alen_m (fun _ H => ⟨H.1, H.2.1, hn _ _ _ _ _ _ H.2.2⟩))
  · exact id
theorem gtF_m {j : Nat} (hn : ∀ pc L st k w h, nx pc L st k w h → nx' pc L st k w h) (H : gtF μ j pc L st k w h nx) : gtF μ j pc L st k w h nx' := by
  unfold gtF at *; revert H; split
  · exact id
  · refine r1_m (fun p s => an_r ?_)
    split
    · exact hn _ _ _ _ _ _
    · exact hn _ _ _ _ _ _
    · exact hn _ _ _ _ _ _
    · split
      · exact id
      · exact hn _ _ _ _ _ _
    · exact id
theorem ptF_m {j : Nat} (hn : ∀ pc L st k w h, nx pc L st k w h → nx' pc L st k w h) (H : ptF μ j pc L st k w h nx) : ptF μ j pc L st k w h nx' := by
  unfold ptF at *; revert H; split
  · exact id
  · refine an_r ?_
    split
    · exact i1_m (fun _ _ => r1_m (fun _ _ => an_r (hn _ _ _ _ _ _)))
    · exact i1_m (fun _ _ => r1_m (fun _ _ => an_r (an_r (hn _ _ _ _ _ _))))
    · exact j1_m (fun _ _ => r1_m (fun _ _ => an_r (hn _ _ _ _ _ _)))
    · exact r1_m (fun _ _ => r1_m (fun _ _ => an_r (hn _ _ _ _ _ _)))
    · exact id
theorem ald_m (hn : ∀ pc L st k w h, nx pc L st k w h → nx' pc L st k w h) (H : ald S pc L st k w h nx) : ald S pc L st k w h nx' := by
  refine i1_m (fun i st => ?_) H
  split
  · exact alen_m (fun _ => an_r (hn _ _ _ _ _ _))
  · split
    · exact id
    · exact an_r (hn _ _ _ _ _ _)
  · exact id
theorem aln_m (hn : ∀ pc L st k w h, nx pc L st k w h → nx' pc L st k w h) (H : aln S pc L st k w h nx) : aln S pc L st k w h nx' := by
  unfold aln at *; revert H; split
  · split
    · exact an_r (hn _ _ _ _ _ _)
    · exact id
  · split
    · exact id
    · exact an_r (hn _ _ _ _ _ _)
  · exact id
theorem mkA_m {t : Nat} (hn : ∀ pc L st k w h, nx pc L st k w h → nx' pc L st k w h) (H : mkA μ t pc L st k w h nx) : mkA μ t pc L st k w h nx' :=
  i1_m (fun _ _ => an_r (an_r (hn _ _ _ _ _ _))) H
theorem mkO_m {j : Nat} (hn : ∀ pc L st k w h, nx pc L st k w h → nx' pc L st k w h) (H : mkO μ j pc L st k w h nx) : mkO μ j pc L st k w h nx' := by
  unfold mkO at *; revert H; split
  · exact id
  · exact an_r (hn _ _ _ _ _ _)
theorem stp_m {i : Jvm.ClassFile.Instr} (hn : ∀ pc L st k w h, nx pc L st k w h → nx' pc L st k w h) (hc : ∀ ν as w h (K K' : KK), (∀ r w h, K r w h → K' r w h) → cl ν as w h K → cl' ν as w h K') (hQ : ∀ r w h, Q r w h → Q' r w h)
    (H : stp S μ pc i L st k w h Q nx cl) : stp S μ pc i L st k w h Q' nx' cl' := by
  cases i
  case iconst n => exact an_r (hn _ _ _ _ _ _) H
  case bipush n => exact an_r (hn _ _ _ _ _ _) H
  case sipush n => exact an_r (hn _ _ _ _ _ _) H
  case lconst n => exact hn _ _ _ _ _ _ H
  case ldc j => unfold stp at *; revert H; dsimp only; split; exact an_r (hn _ _ _ _ _ _); exact id
  case ldc_w j => unfold stp at *; revert H; dsimp only; split; exact an_r (hn _ _ _ _ _ _); exact id
  case ldc2_w j => unfold stp at *; revert H; dsimp only; split; exact an_r (hn _ _ _ _ _ _); exact id
  case iload j => exact ldI_m (fun _ => hn _ _ _ _ _ _) H
  case iload_n j => exact ldI_m (fun _ => hn _ _ _ _ _ _) H
  case lload_n j => exact ldJ_m (fun _ => hn _ _ _ _ _ _) H
  case aload_n j =>
    have H' : ldA L (j : Nat) (fun v => nx (pc + 1) L (v :: st) k w h) := H
    have G : ldA L (j : Nat) (fun v => nx' (pc + 1) L (v :: st) k w h) := ldA_m (fun v => hn _ _ _ _ _ _) H'
    exact G
  case aload j =>
    have H' : ldA L j (fun v => nx (pc + 2) L (v :: st) k w h) := H
    have G : ldA L j (fun v => nx' (pc + 2) L (v :: st) k w h) := ldA_m (fun v => hn _ _ _ _ _ _) H'
    exact G
  case istore j => exact i1_m (fun _ _ => stV_m (fun _ => hn _ _ _ _ _ _)) H
  case istore_n j => exact i1_m (fun _ _ => stV_m (fun _ => hn _ _ _ _ _ _)) H
  case astore_n j =>
    have H' : a1 st (fun v st => stV L (j : Nat) v (fun L => nx (pc + 1) L st k w h)) := H
    have G : a1 st (fun v st => stV L (j : Nat) v (fun L => nx' (pc + 1) L st k w h)) := a1_m (fun v s => stV_m (fun _ => hn _ _ _ _ _ _)) H'
    exact G
  case iinc j n => exact ldI_m (fun _ => an_r (stV_m (fun _ => hn _ _ _ _ _ _))) H
  case iadd => exact i2_m (fun _ _ _ => hn _ _ _ _ _ _) H
  case isub => exact i2_m (fun _ _ _ => hn _ _ _ _ _ _) H
  case imul => exact i2_m (fun _ _ _ => hn _ _ _ _ _ _) H
  case idiv => exact i2_m (fun _ _ _ => an_r (hn _ _ _ _ _ _)) H
  case irem => exact i2_m (fun _ _ _ => an_r (hn _ _ _ _ _ _)) H
  case ineg => exact i1_m (fun _ _ => hn _ _ _ _ _ _) H
  case iand => exact i2_m (fun _ _ _ => hn _ _ _ _ _ _) H
  case ior => exact i2_m (fun _ _ _ => hn _ _ _ _ _ _) H
  case ixor => exact i2_m (fun _ _ _ => hn _ _ _ _ _ _) H
  case ishl => exact i2_m (fun _ _ _ => hn _ _ _ _ _ _) H
  case ishr => exact i2_m (fun _ _ _ => hn _ _ _ _ _ _) H
  case iushr => exact i2_m (fun _ _ _ => hn _ _ _ _ _ _) H
  case ladd => exact j2_m (fun _ _ _ => hn _ _ _ _ _ _) H
  case land => exact j2_m (fun _ _ _ => hn _ _ _ _ _ _) H
  case lor => exact j2_m (fun _ _ _ => hn _ _ _ _ _ _) H
  case lshl => exact ji_m (fun _ _ _ => hn _ _ _ _ _ _) H
  case lshr => exact ji_m (fun _ _ _ => hn _ _ _ _ _ _) H
  case lushr => exact ji_m (fun _ _ _ => hn _ _ _ _ _ _) H
  case lcmp => exact j2_m (fun _ _ _ => hn _ _ _ _ _ _) H
  case i2l => exact i1_m (fun _ _ => hn _ _ _ _ _ _) H
  case l2i => exact j1_m (fun _ _ => hn _ _ _ _ _ _) H
  case dup => unfold stp at *; revert H; dsimp only; split; exact an_r (hn _ _ _ _ _ _); exact id
  case pop => unfold stp at *; revert H; dsimp only; split; exact an_r (hn _ _ _ _ _ _); exact id
  case dup2 => unfold stp at *; revert H; dsimp only; split; exact an_r (hn _ _ _ _ _ _); exact id
  case ifCond c off => exact i1_m (fun _ _ => brn_m (fun _ => hn _ _ _ _ _ _) (hn _ _ _ _ _ _)) H
  case if_icmp c off => exact i2_m (fun _ _ _ => brn_m (fun _ => hn _ _ _ _ _ _) (hn _ _ _ _ _ _)) H
  case goto off => exact jmp_m (fun _ => hn _ _ _ _ _ _) H
  case tableswitch d lo hi offs =>
    refine i1_m (fun _ _ H => ⟨fun q => jmp_m (fun _ => hn _ _ _ _ _ _) (H.1 q), fun q => ?_⟩) H
    obtain ⟨off, h1, h2⟩ := H.2 q
    exact ⟨off, h1, jmp_m (fun _ => hn _ _ _ _ _ _) h2⟩
  case getfield j => exact gtF_m hn H
  case putfield j => exact ptF_m hn H
  case iaload => exact ald_m hn H
  case baload => exact i1_m (fun _ _ => r1_m (fun _ _ => alen_m (fun _ => an_r (hn _ _ _ _ _ _)))) H
  case laload => exact i1_m (fun _ _ => r1_m (fun _ _ => alen_m (fun _ => an_r (hn _ _ _ _ _ _)))) H
  case iastore => exact i2_m (fun _ _ _ => r1_m (fun _ _ => alen_m (fun _ => an_r (hn _ _ _ _ _ _)))) H
  case bastore => exact i2_m (fun _ _ _ => r1_m (fun _ _ => alen_m (fun _ => an_r (an_r (hn _ _ _ _ _ _))))) H
  case lastore => exact j1_m (fun _ _ => i1_m (fun _ _ => r1_m (fun _ _ => alen_m (fun _ => an_r (hn _ _ _ _ _ _))))) H
  case arraylength => exact aln_m hn H
  case newarray t =>
    cases t
    case int => exact mkA_m hn H
    case boolean => exact mkA_m hn H
    case long => exact mkA_m hn H
    all_goals exact False.elim H
  case new j => exact mkO_m hn H
  case invokevirtual j => unfold stp at *; revert H; dsimp only; split; exact an_r (ivR_m hn hc); exact id
  case invokespecial j => unfold stp at *; revert H; dsimp only; split; exact an_r (ivR_m hn hc); exact r1_m (fun _ _ => an_r (hn _ _ _ _ _ _)); exact id
  case invokestatic j => unfold stp at *; revert H; dsimp only; split; exact ivS_m hn hc; exact acp_m hn; exact id
  case ireturn => unfold stp at *; revert H; dsimp only; split; exact an_r (hQ _ _ _); exact id
  case lreturn => unfold stp at *; revert H; dsimp only; split; exact an_r (hQ _ _ _); exact id
  case return_ => unfold stp at *; revert H; dsimp only; split; exact an_r (hQ _ _ _); exact id
  all_goals exact False.elim H
end MONO
theorem clF_m {F G : CF} {d : Nat} (hF : ∀ S d μ pc L st k w h Q, F S d μ pc L st k w h Q → G S d μ pc L st k w h Q) (hG : QM G) (ν : Nat) (as : List PV) (w : WD) (h : HP) (K K' : KK) (hK : ∀ r w h, K r w h → K' r w h) (H : clF F d ν as w h K) : clF G d ν as w h K' := by
  cases d with
  | zero => exact H
  | succ d => exact ⟨H.1, hG _ _ _ _ _ _ _ _ _ _ _ hK (hF _ _ _ _ _ _ _ _ _ _ H.2)⟩
theorem STF_m {F G : CF} (hF : ∀ S d μ pc L st k w h Q, F S d μ pc L st k w h Q → G S d μ pc L st k w h Q) (hG : QM G) {S : SC} {d μ pc : Nat} {L : LSt} {st : List PV} {k : Nat × Nat} {w : WD} {h : HP} {Q Q' : KK} (hQ : ∀ r w h, Q r w h → Q' r w h)
    (H : STF F S d μ pc L st k w h Q) : STF G S d μ pc L st k w h Q' := by
  unfold STF at *; revert H; split
  · exact id
  · exact stp_m (fun _ _ _ _ _ _ H => hG _ _ _ _ _ _ _ _ _ _ _ hQ (hF _ _ _ _ _ _ _ _ _ _ H)) (clF_m hF hG) hQ
theorem WP_qm : QM WP := fun _ _ _ _ _ _ _ _ _ _ _ hQ H F hF hp => hF _ _ _ _ _ _ _ _ _ _ _ hQ (H F hF hp)
theorem WP_in {S : SC} {d μ pc : Nat} {L : LSt} {st : List PV} {k : Nat × Nat} {w : WD} {h : HP} {Q : KK} (H : STF WP S d μ pc L st k w h Q) : WP S d μ pc L st k w h Q :=
  fun F hF hp => hp _ _ _ _ _ _ _ _ _ _ (STF_m (fun _ _ _ _ _ _ _ _ _ _ H => H F hF hp) hF (fun _ _ _ H => H) H)
theorem WP_out {S : SC} {d μ pc : Nat} {L : LSt} {st : List PV} {k : Nat × Nat} {w : WD} {h : HP} {Q : KK} (H : WP S d μ pc L st k w h Q) : STF WP S d μ pc L st k w h Q :=
  H (STF WP) (fun _ _ _ _ _ _ _ _ _ _ _ hQ H => STF_m (fun _ _ _ _ _ _ _ _ _ _ H => H) WP_qm hQ H) (fun _ _ _ _ _ _ _ _ _ _ H => STF_m (fun _ _ _ _ _ _ _ _ _ _ H => WP_in H) WP_qm (fun _ _ _ H => H) H)
theorem WP_eq (S : SC) (d μ pc : Nat) (L : LSt) (st : List PV) (k : Nat × Nat) (w : WD) (h : HP) (Q : KK) : WP S d μ pc L st k w h Q = STF WP S d μ pc L st k w h Q := propext ⟨WP_out, WP_in⟩
/-- deeper room serves too -/
theorem WP_mono {S : SC} {d μ pc : Nat} {L : LSt} {st : List PV} {k : Nat × Nat} {w : WD} {h : HP} {Q Q' : KK} (H : WP S d μ pc L st k w h Q) (hQ : ∀ r w h, Q r w h → Q' r w h) : WP S d μ pc L st k w h Q' := WP_qm _ _ _ _ _ _ _ _ _ _ _ hQ H
