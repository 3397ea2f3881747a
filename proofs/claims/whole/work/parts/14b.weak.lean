/-! a local that is no more read may be forgotten -/
def lle : LSt → LSt → Prop
  | [], [] => True
  | x :: A, y :: B => (x = y ∨ (x = none ∧ ∃ v, y = some v ∧ pcat v = 1)) ∧ lle A B
  | _, _ => False
theorem lle_r : ∀ (A : LSt), lle A A
  | [] => trivial
  | _ :: A => ⟨Or.inl rfl, lle_r A⟩
theorem lle_get : ∀ {A B : LSt} {i : Nat} {v : PV}, lle A B → A[i]? = some (some v) → B[i]? = some (some v)
  | [], _, _, _, _, h => by simp at h
  | _ :: _, [], _, _, h, _ => h.elim
  | x :: A, y :: B, 0, v, h, hx => by
    rcases h.1 with e | ⟨e, -⟩
    · rw [← e]; exact hx
    · rw [e] at hx; simp at hx
  | x :: A, y :: B, i + 1, v, h, hx => by
    have h1 : A[i]? = some (some v) := by simpa using hx
    have h2 := lle_get h.2 h1
    simpa using h2
theorem lle_J : ∀ {A B : LSt} {i : Nat} {a : Int}, lle A B → B[i]? = some (some (.inr (.inl a))) → A[i]? = some (some (.inr (.inl a)))
  | [], [], _, _, _, h => by simp at h
  | [], _ :: _, _, _, h, _ => h.elim
  | _ :: _, [], _, _, h, _ => h.elim
  | x :: A, y :: B, 0, a, h, hx => by
    rcases h.1 with e | ⟨e, v, hv, hp⟩
    · rw [e]; exact hx
    · simp at hx
      rw [hx] at hv
      cases hv
      cases hp
  | x :: A, y :: B, i + 1, a, h, hx => by
    have h1 : B[i]? = some (some (.inr (.inl a))) := by simpa using hx
    have h2 := lle_J h.2 h1
    simpa using h2
theorem lle_len : ∀ {A B : LSt}, lle A B → A.length = B.length
  | [], [], _ => rfl
  | [], _ :: _, h => h.elim
  | _ :: _, [], h => h.elim
  | _ :: _, _ :: _, h => by simp [lle_len h.2]
theorem lle_set : ∀ {A B : LSt} {i : Nat} {v : Option PV}, lle A B → lle (A.set i v) (B.set i v)
  | [], [], _, _, _ => trivial
  | [], _ :: _, _, _, h => h.elim
  | _ :: _, [], _, _, h => h.elim
  | x :: A, y :: B, 0, v, h => ⟨Or.inl rfl, h.2⟩
  | x :: A, y :: B, i + 1, v, h => ⟨h.1, lle_set h.2⟩
theorem lle_noJ {A B : LSt} {i : Nat} (h : lle A B) (hj : noJ A i = true) : noJ B i = true := by
  unfold noJ at *
  cases i with
  | zero => rfl
  | succ j =>
    dsimp only at *
    split
    · rename_i e
      rw [lle_J h e] at hj
      exact hj
    · rfl
theorem stV_w {A B : LSt} {i : Nat} {v : PV} {f g : LSt → Prop} (hl : lle A B) (hf : ∀ A B, lle A B → f A → g B) (H : stV A i v f) : stV B i v g := by
  obtain ⟨h1, h2⟩ := H
  simp only [Bool.and_eq_true] at h1
  refine ⟨?_, hf _ _ (lle_set hl) h2⟩
  rw [← lle_len hl, h1.1, lle_noJ hl h1.2]; rfl
theorem ldI_w {A B : LSt} {i : Nat} {f g : Int → Prop} (hl : lle A B) (hf : ∀ a, f a → g a) (H : ldI A i f) : ldI B i g := by
  unfold ldI at H
  split at H
  · rename_i e
    unfold ldI; rw [lle_get hl e]; exact hf _ H
  · exact H.elim
theorem ldJ_w {A B : LSt} {i : Nat} {f g : Int → Prop} (hl : lle A B) (hf : ∀ a, f a → g a) (H : ldJ A i f) : ldJ B i g := by
  unfold ldJ at H
  split at H
  · rename_i e
    unfold ldJ; rw [lle_get hl e]; exact hf _ H
  · exact H.elim
theorem ldA_w {A B : LSt} {i : Nat} {f g : PV → Prop} (hl : lle A B) (hf : ∀ a, f a → g a) (H : ldA A i f) : ldA B i g := by
  unfold ldA at H
  split at H
  · rename_i e
    unfold ldA; rw [lle_get hl e]; exact hf _ H
  · exact H.elim
section WEAK
variable {nx nx' : NX} {cl : CLT} {Q : KK} {A B : LSt} {st : List PV} {k : Nat × Nat} {w : WD} {h : HP} {S : SC} {μ ν pc : Nat}
theorem ivR_w (hn : ∀ pc st k w h, nx pc A st k w h → nx' pc B st k w h) (hc : ∀ ν as w h (K K' : KK), (∀ r w h, K r w h → K' r w h) → cl ν as w h K → cl ν as w h K') (H : ivR μ ν pc A st k w h nx cl) : ivR μ ν pc B st k w h nx' cl :=
  r1_m (fun _ _ H => ⟨H.1, H.2.1, hc _ _ _ _ _ _ (fun _ _ _ H => hn _ _ _ _ _ H) H.2.2⟩) H
theorem ivS_w (hn : ∀ pc st k w h, nx pc A st k w h → nx' pc B st k w h) (hc : ∀ ν as w h (K K' : KK), (∀ r w h, K r w h → K' r w h) → cl ν as w h K → cl ν as w h K') (H : ivS μ ν pc A st k w h nx cl) : ivS μ ν pc B st k w h nx' cl :=
  ⟨H.1, hc _ _ _ _ _ _ (fun _ _ _ H => hn _ _ _ _ _ H) H.2⟩
theorem acp_w (hn : ∀ pc st k w h, nx pc A st k w h → nx' pc B st k w h) (H : acp pc A st k w h nx) : acp pc B st k w h nx' := by
  unfold acp at *; revert H; split
  · exact alen_m (fun _ => alen_m (fun _ H => ⟨H.1, H.2.1, hn _ _ _ _ _ H.2.2⟩))
  · exact id
theorem gtF_w {j : Nat} (hn : ∀ pc st k w h, nx pc A st k w h → nx' pc B st k w h) (H : gtF μ j pc A st k w h nx) : gtF μ j pc B st k w h nx' := by
  unfold gtF at *; revert H; split
  · exact id
  · refine r1_m (fun p s => an_r ?_)
    split
    · exact hn _ _ _ _ _
    · exact hn _ _ _ _ _
    · exact hn _ _ _ _ _
    · split
      · exact id
      · exact hn _ _ _ _ _
    · exact id
theorem ptF_w {j : Nat} (hn : ∀ pc st k w h, nx pc A st k w h → nx' pc B st k w h) (H : ptF μ j pc A st k w h nx) : ptF μ j pc B st k w h nx' := by
  unfold ptF at *; revert H; split
  · exact id
  · refine an_r ?_
    split
    · exact i1_m (fun _ _ => r1_m (fun _ _ => an_r (hn _ _ _ _ _)))
    · exact i1_m (fun _ _ => r1_m (fun _ _ => an_r (an_r (hn _ _ _ _ _))))
    · exact j1_m (fun _ _ => r1_m (fun _ _ => an_r (hn _ _ _ _ _)))
    · exact r1_m (fun _ _ => r1_m (fun _ _ => an_r (hn _ _ _ _ _)))
    · exact id
theorem ald_w (hn : ∀ pc st k w h, nx pc A st k w h → nx' pc B st k w h) (H : ald S pc A st k w h nx) : ald S pc B st k w h nx' := by
  refine i1_m (fun i st => ?_) H
  split
  · exact alen_m (fun _ => an_r (hn _ _ _ _ _))
  · split
    · exact id
    · exact an_r (hn _ _ _ _ _)
  · exact id
theorem aln_w (hn : ∀ pc st k w h, nx pc A st k w h → nx' pc B st k w h) (H : aln S pc A st k w h nx) : aln S pc B st k w h nx' := by
  unfold aln at *; revert H; split
  · split
    · exact an_r (hn _ _ _ _ _)
    · exact id
  · split
    · exact id
    · exact an_r (hn _ _ _ _ _)
  · exact id
theorem mkA_w {t : Nat} (hn : ∀ pc st k w h, nx pc A st k w h → nx' pc B st k w h) (H : mkA μ t pc A st k w h nx) : mkA μ t pc B st k w h nx' :=
  i1_m (fun _ _ => an_r (an_r (hn _ _ _ _ _))) H
theorem mkO_w {j : Nat} (hn : ∀ pc st k w h, nx pc A st k w h → nx' pc B st k w h) (H : mkO μ j pc A st k w h nx) : mkO μ j pc B st k w h nx' := by
  unfold mkO at *; revert H; split
  · exact id
  · exact an_r (hn _ _ _ _ _)
theorem stp_w {i : Jvm.ClassFile.Instr} (hl : lle A B) (hg : ∀ pc A B st k w h, lle A B → nx pc A st k w h → nx' pc B st k w h) (hc : ∀ ν as w h (K K' : KK), (∀ r w h, K r w h → K' r w h) → cl ν as w h K → cl ν as w h K')
    (H : stp S μ pc i A st k w h Q nx cl) : stp S μ pc i B st k w h Q nx' cl := by
  have hn : ∀ pc st k w h, nx pc A st k w h → nx' pc B st k w h := fun pc st k w h => hg pc A B st k w h hl
  cases i
  case iconst n => exact an_r (hn _ _ _ _ _) H
  case bipush n => exact an_r (hn _ _ _ _ _) H
  case sipush n => exact an_r (hn _ _ _ _ _) H
  case lconst n => exact hn _ _ _ _ _ H
  case ldc j => unfold stp at *; revert H; dsimp only; split; exact an_r (hn _ _ _ _ _); exact id
  case ldc_w j => unfold stp at *; revert H; dsimp only; split; exact an_r (hn _ _ _ _ _); exact id
  case ldc2_w j => unfold stp at *; revert H; dsimp only; split; exact an_r (hn _ _ _ _ _); exact id
  case iload j => exact ldI_w hl (fun _ => hn _ _ _ _ _) H
  case iload_n j => exact ldI_w hl (fun _ => hn _ _ _ _ _) H
  case lload_n j => exact ldJ_w hl (fun _ => hn _ _ _ _ _) H
  case aload_n j =>
    have H' : ldA A (j : Nat) (fun v => nx (pc + 1) A (v :: st) k w h) := H
    have G : ldA B (j : Nat) (fun v => nx' (pc + 1) B (v :: st) k w h) := ldA_w hl (fun v => hn _ _ _ _ _) H'
    exact G
  case aload j =>
    have H' : ldA A j (fun v => nx (pc + 2) A (v :: st) k w h) := H
    have G : ldA B j (fun v => nx' (pc + 2) B (v :: st) k w h) := ldA_w hl (fun v => hn _ _ _ _ _) H'
    exact G
  case istore j => exact i1_m (fun _ _ => stV_w hl (fun _ _ hl => hg _ _ _ _ _ _ _ hl)) H
  case istore_n j => exact i1_m (fun _ _ => stV_w hl (fun _ _ hl => hg _ _ _ _ _ _ _ hl)) H
  case astore_n j =>
    have H' : a1 st (fun v st => stV A (j : Nat) v (fun L => nx (pc + 1) L st k w h)) := H
    have G : a1 st (fun v st => stV B (j : Nat) v (fun L => nx' (pc + 1) L st k w h)) := a1_m (fun v s => stV_w hl (fun _ _ hl => hg _ _ _ _ _ _ _ hl)) H'
    exact G
  case iinc j n => exact ldI_w hl (fun _ => an_r (stV_w hl (fun _ _ hl => hg _ _ _ _ _ _ _ hl))) H
  case iadd => exact i2_m (fun _ _ _ => hn _ _ _ _ _) H
  case isub => exact i2_m (fun _ _ _ => hn _ _ _ _ _) H
  case imul => exact i2_m (fun _ _ _ => hn _ _ _ _ _) H
  case idiv => exact i2_m (fun _ _ _ => an_r (hn _ _ _ _ _)) H
  case irem => exact i2_m (fun _ _ _ => an_r (hn _ _ _ _ _)) H
  case ineg => exact i1_m (fun _ _ => hn _ _ _ _ _) H
  case iand => exact i2_m (fun _ _ _ => hn _ _ _ _ _) H
  case ior => exact i2_m (fun _ _ _ => hn _ _ _ _ _) H
  case ixor => exact i2_m (fun _ _ _ => hn _ _ _ _ _) H
  case ishl => exact i2_m (fun _ _ _ => hn _ _ _ _ _) H
  case ishr => exact i2_m (fun _ _ _ => hn _ _ _ _ _) H
  case iushr => exact i2_m (fun _ _ _ => hn _ _ _ _ _) H
  case ladd => exact j2_m (fun _ _ _ => hn _ _ _ _ _) H
  case land => exact j2_m (fun _ _ _ => hn _ _ _ _ _) H
  case lor => exact j2_m (fun _ _ _ => hn _ _ _ _ _) H
  case lshl => exact ji_m (fun _ _ _ => hn _ _ _ _ _) H
  case lshr => exact ji_m (fun _ _ _ => hn _ _ _ _ _) H
  case lushr => exact ji_m (fun _ _ _ => hn _ _ _ _ _) H
  case lcmp => exact j2_m (fun _ _ _ => hn _ _ _ _ _) H
  case i2l => exact i1_m (fun _ _ => hn _ _ _ _ _) H
  case l2i => exact j1_m (fun _ _ => hn _ _ _ _ _) H
  case dup => unfold stp at *; revert H; dsimp only; split; exact an_r (hn _ _ _ _ _); exact id
  case pop => unfold stp at *; revert H; dsimp only; split; exact an_r (hn _ _ _ _ _); exact id
  case dup2 => unfold stp at *; revert H; dsimp only; split; exact an_r (hn _ _ _ _ _); exact id
  case ifCond c off => exact i1_m (fun _ _ => brn_m (fun _ => hn _ _ _ _ _) (hn _ _ _ _ _)) H
  case if_icmp c off => exact i2_m (fun _ _ _ => brn_m (fun _ => hn _ _ _ _ _) (hn _ _ _ _ _)) H
  case goto off => exact jmp_m (fun _ => hn _ _ _ _ _) H
  case tableswitch d lo hi offs =>
    refine i1_m (fun _ _ H => ⟨fun q => jmp_m (fun _ => hn _ _ _ _ _) (H.1 q), fun q => ?_⟩) H
    obtain ⟨off, h1, h2⟩ := H.2 q
    exact ⟨off, h1, jmp_m (fun _ => hn _ _ _ _ _) h2⟩
  case getfield j => exact gtF_w hn H
  case putfield j => exact ptF_w hn H
  case iaload => exact ald_w hn H
  case baload => exact i1_m (fun _ _ => r1_m (fun _ _ => alen_m (fun _ => an_r (hn _ _ _ _ _)))) H
  case laload => exact i1_m (fun _ _ => r1_m (fun _ _ => alen_m (fun _ => an_r (hn _ _ _ _ _)))) H
  case iastore => exact i2_m (fun _ _ _ => r1_m (fun _ _ => alen_m (fun _ => an_r (hn _ _ _ _ _)))) H
  case bastore => exact i2_m (fun _ _ _ => r1_m (fun _ _ => alen_m (fun _ => an_r (an_r (hn _ _ _ _ _))))) H
  case lastore => exact j1_m (fun _ _ => i1_m (fun _ _ => r1_m (fun _ _ => alen_m (fun _ => an_r (hn _ _ _ _ _))))) H
  case arraylength => exact aln_w hn H
  case newarray t =>
    cases t
    case int => exact mkA_w hn H
    case boolean => exact mkA_w hn H
    case long => exact mkA_w hn H
    all_goals exact False.elim H
  case new j => exact mkO_w hn H
  case invokevirtual j => unfold stp at *; revert H; dsimp only; split; exact an_r (ivR_w hn hc); exact id
  case invokespecial j => unfold stp at *; revert H; dsimp only; split; exact an_r (ivR_w hn hc); exact r1_m (fun _ _ => an_r (hn _ _ _ _ _)); exact id
  case invokestatic j => unfold stp at *; revert H; dsimp only; split; exact ivS_w hn hc; exact acp_w hn; exact id
  case ireturn => exact H
  case lreturn => exact H
  case return_ => exact H
  all_goals exact False.elim H
end WEAK
theorem WP_weak {S : SC} {d μ pc : Nat} {A B : LSt} {st : List PV} {k : Nat × Nat} {w : WD} {h : HP} {Q : KK} (hl : lle A B) (H : WP S d μ pc A st k w h Q) : WP S d μ pc B st k w h Q := by
  refine H (fun S d μ pc A st k w h Q => ∀ B, lle A B → WP S d μ pc B st k w h Q) (fun S d μ pc L st k w h Q Q' hQ H B hl => WP_mono (H B hl) hQ) ?_ B hl
  intro S d μ pc A st k w h Q H B hl
  refine WP_in ?_
  unfold STF at *
  split at H
  · exact H.elim
  · rename_i i e
    have hcc : ∀ ν as w h (K K' : KK), (∀ r w h, K r w h → K' r w h) → clF WP d ν as w h K → clF WP d ν as w h K' := clF_m (fun _ _ _ _ _ _ _ _ _ _ H => H) WP_qm
    have H2 : stp S μ pc i A st k w h Q (fun pc L st k w h => ∀ B, lle L B → WP S d μ pc B st k w h Q) (clF WP d) := by
      refine stp_m (fun _ _ _ _ _ _ H => H) ?_ (fun _ _ _ H => H) H
      intro ν as w h K K' hK H
      cases d with
      | zero => exact H
      | succ d => exact ⟨H.1, WP_mono (H.2 _ (lle_r _)) hK⟩
    exact stp_w (nx' := fun pc L st k w h => WP S d μ pc L st k w h Q) hl (fun pc A B st k w h hl H => H B hl) hcc H2
theorem X_weak {d m pc : Nat} {A B : LSt} {st : List PV} {h : HP} {Q : PV → HP → Prop} (hl : lle A B) (H : X d m pc A st h Q) : X d m pc B st h Q := fun w hw => WP_weak hl (H w hw)
