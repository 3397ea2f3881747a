/-! acts told: rows moved down, an act written, both sides -/
def sft (f : Nat → Int) : Nat → Int := fun j => if j < 59 then f (j + 1) else f j
def setr (h : HP) (p : Nat) (f : Nat → Int) : HP := fun q j => if q = p then f j else h q j
theorem setr_p {h : HP} {p q : Nat} {f : Nat → Int} (hq : q ≠ p) : setr h p f q = h q := by funext j; simp [setr, hq]
theorem setr_s {h : HP} {p : Nat} {f : Nat → Int} : setr h p f p = f := by funext j; simp [setr]
theorem cpy_sft {h : HP} {p : Nat} : cpy h p p 1 0 59 = setr h p (sft (h p)) := by
  funext a i
  simp only [cpy, setr, sft]
  by_cases e : a = p
  · subst e
    by_cases hi : i < 59
    · simp [hi, Nat.add_comm]
    · simp [hi]
  · simp [e]
def tlD (h : HP) : HP := up2 (setr (setr (setr h 58 (sft (h 58))) 59 (sft (h 59))) 60 (sft (h 60))) 57 1 59
def tlP (h : HP) (w b a : Int) : HP := up2 (up2 (up2 (up2 (up2 h 58 (h 57 1).toNat w) 59 (h 57 1).toNat b) 60 (h 57 1).toNat a) 57 1 (h 57 1 + 1)) 57 2 (h 57 1 + 1)
def tlH (h : HP) (w b a : Int) : HP := if h 57 1 < 60 then tlP h w b a else tlP (tlD h) w b a
theorem tell_n {d : Nat} {h : HP} {Q : PV → HP → Prop} {c k v : Int} (hg : ∀ K : PV → HP → Prop, K (I v) h → X d 6 0 [some (P 57), some (I c), some (I k)] [] h K) (H : Q (I 0) h) : X (d + 1) 2 0 [some (P 57), some (I c), some (I k), some (I v), none] [] h Q :=
  b2_0 (hg _ (b2_6 (br_i (fun q => absurd rfl q) (fun _ => H))))
theorem tell_p {d : Nat} {h : HP} {Q : PV → HP → Prop} {c k v s : Int} (h0 : 0 ≤ h 57 1) (h60 : h 57 1 < 60) (H : X d 7 0 [some (P 57), some (I c), some (I k), some (I v)] [] (tlP h (bOr (bShl c 4) k) s v) (fun _ h' => Q (I 1) h')) : X (d + 1) 2 29 [some (P 57), some (I c), some (I k), some (I v), some (I s)] [] h Q := by
  refine b2_29 (an_i h0 h60 (an_i h0 h60 (an_i h0 h60 ?_)))
  rw [w32_s h0 (by omega)]
  exact X_mono H (fun r h' q => b2_89 q)
theorem tell_c {d : Nat} {h : HP} {Q : PV → HP → Prop} {c k v s : Int} (h0 : 0 ≤ h 57 1) (h60 : h 57 1 ≤ 60) (hg : ∀ K : PV → HP → Prop, K (I s) h → X d 6 0 [some (P 57), some (I c), some (I k)] [] h K) (hn : ¬ s = v) (H : X d 7 0 [some (P 57), some (I c), some (I k), some (I v)] [] (tlH h (bOr (bShl c 4) k) s v) (fun _ h' => Q (I 1) h')) : X (d + 1) 2 0 [some (P 57), some (I c), some (I k), some (I v), none] [] h Q := by
  refine b2_0 (hg _ (b2_6 (br_i (fun _ => br_i (fun q => ?_) (fun q => ?_)) (fun q => absurd hn q))))
  · unfold tlH at H; rw [if_pos q] at H
    exact tell_p h0 q H
  · unfold tlH at H; rw [if_neg q] at H
    refine b5_0 ?_
    rw [cpy_sft, cpy_sft, cpy_sft]
    have e : up2 (setr (setr (setr h 58 (sft (h 58))) 59 (sft ((setr h 58 (sft (h 58))) 59))) 60 (sft ((setr (setr h 58 (sft (h 58))) 59 (sft ((setr h 58 (sft (h 58))) 59))) 60))) 57 1 59 = tlD h := by
      simp only [setr_p, ne_eq, Nat.reduceEqDiff, not_false_eq_true]; rfl
    rw [e]
    have e2 : tlD h 57 1 = 59 := up_s
    exact tell_p (by rw [e2]; decide) (by rw [e2]; decide) H
def sftI (i : Nat) (f : Nat → Int) : Nat → Int := fun j => if j + 1 < i then f (j + 1) else f j
def acI (h : HP) (i : Nat) : HP := setr (setr (setr (setr h 98 (sftI i (h 98))) 99 (sftI i (h 99))) 100 (sftI i (h 100))) 101 (sftI i (h 101))
def acD (h : HP) : HP := up2 (acI h 60) 69 44 59
def acP (h : HP) (s o x y : Int) : HP := up2 (up2 (up2 (up2 (up2 (up2 h 98 (h 69 44).toNat s) 99 (h 69 44).toNat o) 100 (h 69 44).toNat x) 101 (h 69 44).toNat y) 69 44 (h 69 44 + 1)) 69 43 (h 69 44 + 1)
def acM (h : HP) (s o x y : Int) : HP := if h 69 44 = 60 then acP (acD h) s o x y else acP h s o x y
theorem sftI_1 (f : Nat → Int) : sftI 1 f = f := by funext j; simp [sftI]
theorem setr_id (h : HP) (p : Nat) : setr h p (h p) = h := by
  funext q j; simp only [setr]
  by_cases e : q = p
  · simp [e]
  · simp [e]
theorem acI_1 (h : HP) : acI h 1 = h := by
  unfold acI
  simp only [sftI_1, setr_id]
theorem up_setr {h : HP} {p i : Nat} {v : Int} {f : Nat → Int} : up2 (setr h p f) p i v = setr h p (fun j => if j = i then v else f j) := by
  funext q j; simp only [up2, setr]
  by_cases e : q = p
  · simp [e]
  · simp [e]
theorem up_setc {h : HP} {p q i : Nat} {v : Int} {f : Nat → Int} (hpq : p ≠ q) : up2 (setr h p f) q i v = setr (up2 h q i v) p f := by
  funext a j; simp only [up2, setr]
  by_cases e : a = p
  · have e2 : a ≠ q := fun e2 => hpq (e ▸ e2)
    simp [e, hpq]
  · simp [e]
theorem sftI_s (i : Nat) (f : Nat → Int) : (fun j => if j = i then f (i + 1) else sftI (i + 1) f j) = sftI (i + 2) f := by
  funext j
  simp only [sftI]
  by_cases e : j = i
  · simp [e]
  · by_cases e2 : j + 1 < i + 1
    · rw [if_neg e, if_pos e2, if_pos (by omega)]
    · rw [if_neg e, if_neg e2, if_neg (by omega)]
theorem acI_g {h : HP} {i : Nat} : acI h (i + 1) 98 (i + 1) = h 98 (i + 1) ∧ acI h (i + 1) 99 (i + 1) = h 99 (i + 1) ∧ acI h (i + 1) 100 (i + 1) = h 100 (i + 1) ∧ acI h (i + 1) 101 (i + 1) = h 101 (i + 1) := by
  unfold acI
  simp only [setr_p, setr_s, ne_eq, Nat.reduceEqDiff, not_false_eq_true, sftI]
  simp
  and_intros <;> (intro q; omega)
theorem acI_s {h : HP} {i : Nat} : up2 (up2 (up2 (up2 (acI h (i + 1)) 98 i (h 98 (i + 1))) 99 i (h 99 (i + 1))) 100 i (h 100 (i + 1))) 101 i (h 101 (i + 1)) = acI h (i + 2) := by
  unfold acI
  rw [up_setc (p := 101) (q := 98) (by decide), up_setc (p := 100) (q := 98) (by decide), up_setc (p := 99) (q := 98) (by decide), up_setr (p := 98), sftI_s]
  rw [up_setc (p := 101) (q := 99) (by decide), up_setc (p := 100) (q := 99) (by decide), up_setr (p := 99), sftI_s]
  rw [up_setc (p := 101) (q := 100) (by decide), up_setr (p := 100), sftI_s, up_setr (p := 101), sftI_s]
theorem act_loop {d : Nat} {h : HP} {Q : PV → HP → Prop} {v1 v2 v3 v4 : Int} (hd : h 69 44 = 60) (H : X d 146 107 [some (P 69), some (I v1), some (I v2), some (I v3), some (I v4), none] [] (acD h) Q) : ∀ n i : Nat, i + n = 59 → X d 146 20 [some (P 69), some (I v1), some (I v2), some (I v3), some (I v4), some (I ((i : Int) + 1))] [] (acI h (i + 1)) Q := by
  intro n
  induction n with
  | zero =>
    intro i hi
    refine b146_20 (br_i (fun _ => ?_) (fun q => absurd (by omega) q))
    have e : i = 59 := by omega
    subst e
    have e1 : acI h (59 + 1) 69 44 = 60 := by
      unfold acI; simp only [setr_p, ne_eq, Nat.reduceEqDiff, not_false_eq_true]; exact hd
    rw [e1]
    exact H
  | succ n ih =>
    intro i hi
    refine b146_20 (br_i (fun q => absurd q (by omega)) (fun _ => ?_))
    have e1 : w32 ((i : Int) + 1 - 1) = (i : Int) := by rw [w32_of (by omega) (by omega)]; omega
    have e2 : w32 ((i : Int) + 1 + 1) = ((i + 1 : Nat) : Int) + 1 := by rw [w32_of (by omega) (by omega)]; omega
    have e3 : ((i : Int) + 1).toNat = i + 1 := by omega
    have e4 : (i : Int).toNat = i := by omega
    rw [e1, e2, e3, e4]
    obtain ⟨g1, g2, g3, g4⟩ := acI_g (h := h) (i := i)
    rw [g1, g2, g3, g4, acI_s]
    have := ih (i + 1) (by omega)
    refine an_i (by omega) (by omega) (an_i (by omega) (by omega) (an_i (by omega) (by omega) (an_i (by omega) (by omega) (an_i (by omega) (by omega) (an_i (by omega) (by omega) (an_i (by omega) (by omega) (an_i (by omega) (by omega) this)))))))
theorem act_p {d : Nat} {h : HP} {Q : PV → HP → Prop} {s o y x : Int} (h0 : 0 ≤ h 69 44) (h60 : h 69 44 < 60) (H : X d 145 0 [some (P 69), some (I s), some (I o), some (I y)] [] (acP h s o x y) (fun _ h' => Q (I 0) h')) : X (d + 1) 146 107 [some (P 69), some (I s), some (I o), some (I y), some (I x), none] [] h Q := by
  refine b146_107 (an_i h0 h60 (an_i h0 h60 (an_i h0 h60 (an_i h0 h60 ?_))))
  rw [w32_s h0 (by omega)]
  exact X_mono H (fun r h' q => b146_173 q)
theorem act_c {d : Nat} {h : HP} {Q : PV → HP → Prop} {s o y x : Int} (h0 : 0 ≤ h 69 44) (h60 : h 69 44 ≤ 60) (hg : ∀ K : PV → HP → Prop, K (I x) h → X d 144 0 [some (P 69), some (I s), some (I o)] [] h K) (H : X d 145 0 [some (P 69), some (I s), some (I o), some (I y)] [] (acM h s o x y) (fun _ h' => Q (I 0) h')) : X (d + 1) 146 0 [some (P 69), some (I s), some (I o), some (I y), none, none] [] h Q := by
  refine b146_0 (hg _ (b146_6 (br_i (fun q => ?_) (fun q => ?_))))
  · unfold acM at H; rw [if_neg q] at H
    exact act_p h0 (by omega) H
  · have q' : h 69 44 = 60 := by omega
    unfold acM at H; rw [if_pos q'] at H
    have e2 : acD h 69 44 = 59 := up_s
    have := act_loop (d := d + 1) (v1 := s) (v2 := o) (v3 := y) (v4 := x) (Q := Q) q' (act_p (by rw [e2]; decide) (by rw [e2]; decide) H) 59 0 (by omega)
    rw [acI_1] at this
    exact this
theorem sft_60 (f : Nat → Int) : sftI 60 f = sft f := by
  funext j; simp only [sftI, sft]
  by_cases e : j < 59
  · rw [if_pos (by omega), if_pos e]
  · rw [if_neg (by omega), if_neg e]
theorem actR_sft {n : Int} {w b a s o x y : Nat → Int} (H : actR 60 n w b a s o x y) : actR 59 n (sft w) (sft b) (sft a) (sft s) (sft o) (sft x) (sft y) := by
  intro j hj
  have e : j < 59 := by omega
  simp only [sft, if_pos e]
  exact H (j + 1) (by omega)
theorem actR_push {k n : Int} {i : Nat} {w b a s o x y : Nat → Int} {w' b' a' s' o' x' y' : Int} (H : actR k n w b a s o x y) (hi : (i : Int) ≤ k) (E : actE w' b' a' s' o' x' y' n) : actR (i + 1) n (fun j => if j = i then w' else w j) (fun j => if j = i then b' else b j) (fun j => if j = i then a' else a j) (fun j => if j = i then s' else s j) (fun j => if j = i then o' else o j) (fun j => if j = i then x' else x j) (fun j => if j = i then y' else y j) := by
  intro j hj
  by_cases e : j = i
  · simp only [e, if_true]; exact E
  · simp only [e, if_false]; exact H j (by omega)
set_option maxHeartbeats 4000000 in
theorem R_push {h : HP} {w b a s o x y : Int} (hR : R h) (E : actE w b a s o x y (h 26 2)) : R (acM (tlH h w b a) s o x y) := by
  obtain ⟨⟨r1, r2, r3, r4, r5, r6, r7, r8⟩, ⟨r9, r10, r11, r12, r13⟩, ⟨r14, r15, r16, r17, r18, r19, r20⟩, ⟨r21, r22, r23, r24, r25, r26⟩, ⟨r27, r28, r29, r30, r31⟩, ⟨r32, r33⟩, ⟨r34, r35, r36, r37, r38, r39, r40, r41, r42, r43, r44, r45⟩, ⟨r46, r47, r48⟩, ⟨r49, r50, r51, r52, r53, r54, r55⟩, ⟨r56, r57, r58, r59, r60, r61, r62, r63, r64, r65⟩, ⟨r66, r67, r68, r69, r70, r71, r72, r73, r74, r75⟩, ⟨r76, r77, r78, r79, r80, r81, r82, r83⟩, ⟨r84, r85, r86, r87, r88, r89⟩, ⟨r90, r91, r92, r93, r94, r95, r96, r97, r98⟩, ⟨r99, r100, r101, r102, r103, r104, r105, r106⟩, ⟨r107, r108, r109, r110, r111, r112, r113⟩, ⟨r114, r115, r116, r117, r118, r119, r120, r121, r122, r123⟩⟩ := id hR
  by_cases hd : h 57 1 < 60
  · have e1 : tlP h w b a 69 44 = h 57 1 := by unfold tlP; simp only [up_p, ne_eq, Nat.reduceEqDiff, not_false_eq_true]; exact r42.symm
    unfold tlH; rw [if_pos hd]; unfold acM; rw [e1, if_neg (by omega)]; unfold acP; rw [e1]; unfold tlP
    have hA := actR_push (i := (h 57 1).toNat) r119 (by omega) E
    rw [show (((h 57 1).toNat : Nat) : Int) = h 57 1 by omega] at hA
    unfold R; simp only [up_p, up_i, up_s, up_f, ne_eq, Nat.reduceEqDiff, not_false_eq_true]; and_intros; all_goals first | exact True.intro | assumption | (apply row_e; assumption) | (apply rgA_f <;> first | assumption | omega) | (apply ends_f <;> first | assumption | omega) | (apply below_f <;> first | assumption | omega) | (apply rgN_f <;> first | assumption | omega) | (apply ends_m <;> first | assumption | omega) | (apply below_m <;> first | assumption | omega) | (apply actR_m <;> first | assumption | omega) | (apply ownT_f <;> first | assumption | omega) | (apply ownT_n <;> first | assumption | omega) | (apply ownT_m <;> first | assumption | omega) | omega
  · have h60 : h 57 1 = 60 := by omega
    have h61 : h 57 2 = 60 := by omega
    have e0 : tlD h 57 1 = 59 := up_s
    have e1 : tlP (tlD h) w b a 69 44 = 60 := by unfold tlP tlD; simp only [up_p, setr_p, ne_eq, Nat.reduceEqDiff, not_false_eq_true]; omega
    have e2 : ∀ H, acD H 69 44 = 59 := fun H => up_s
    unfold tlH; rw [if_neg hd]; unfold acM; rw [e1, if_pos rfl]; unfold acP; rw [e2]; unfold tlP; rw [e0]; unfold acD acI tlD
    have hA := actR_push (i := 59) (actR_sft (h61 ▸ r119)) (by decide) E
    unfold R; simp only [up_p, up_i, up_s, up_f, ne_eq, Nat.reduceEqDiff, not_false_eq_true, setr_p, setr_s, sft_60, Int.reduceToNat, Int.reduceAdd]
    and_intros; all_goals first | exact True.intro | assumption | (apply row_e; assumption) | (apply rgA_f <;> first | assumption | omega) | (apply ends_f <;> first | assumption | omega) | (apply below_f <;> first | assumption | omega) | (apply rgN_f <;> first | assumption | omega) | (apply ends_m <;> first | assumption | omega) | (apply below_m <;> first | assumption | omega) | (apply actR_m <;> first | assumption | omega) | (apply ownT_f <;> first | assumption | omega) | (apply ownT_n <;> first | assumption | omega) | (apply ownT_m <;> first | assumption | omega) | omega | exact hA | decide
