/-! pair: share -/
def bcX (v0 : Int) : Int := (bAnd (w32 ((w32 ((bAnd (w32 ((w32 ((bAnd (w32 (v0 - (bAnd (bUsh v0 1) 1431655765))) 858993459) + (bAnd (bUsh (w32 (v0 - (bAnd (bUsh v0 1) 1431655765))) 2) 858993459))) + (bUsh (w32 ((bAnd (w32 (v0 - (bAnd (bUsh v0 1) 1431655765))) 858993459) + (bAnd (bUsh (w32 (v0 - (bAnd (bUsh v0 1) 1431655765))) 2) 858993459))) 4))) 252645135) + (bUsh (bAnd (w32 ((w32 ((bAnd (w32 (v0 - (bAnd (bUsh v0 1) 1431655765))) 858993459) + (bAnd (bUsh (w32 (v0 - (bAnd (bUsh v0 1) 1431655765))) 2) 858993459))) + (bUsh (w32 ((bAnd (w32 (v0 - (bAnd (bUsh v0 1) 1431655765))) 858993459) + (bAnd (bUsh (w32 (v0 - (bAnd (bUsh v0 1) 1431655765))) 2) 858993459))) 4))) 252645135) 8))) + (bUsh (w32 ((bAnd (w32 ((w32 ((bAnd (w32 (v0 - (bAnd (bUsh v0 1) 1431655765))) 858993459) + (bAnd (bUsh (w32 (v0 - (bAnd (bUsh v0 1) 1431655765))) 2) 858993459))) + (bUsh (w32 ((bAnd (w32 (v0 - (bAnd (bUsh v0 1) 1431655765))) 858993459) + (bAnd (bUsh (w32 (v0 - (bAnd (bUsh v0 1) 1431655765))) 2) 858993459))) 4))) 252645135) + (bUsh (bAnd (w32 ((w32 ((bAnd (w32 (v0 - (bAnd (bUsh v0 1) 1431655765))) 858993459) + (bAnd (bUsh (w32 (v0 - (bAnd (bUsh v0 1) 1431655765))) 2) 858993459))) + (bUsh (w32 ((bAnd (w32 (v0 - (bAnd (bUsh v0 1) 1431655765))) 858993459) + (bAnd (bUsh (w32 (v0 - (bAnd (bUsh v0 1) 1431655765))) 2) 858993459))) 4))) 252645135) 8))) 16))) 63)
section P46
variable {d : Nat} {h : HP} {Q : PV → HP → Prop} {v1 v2 v3 v4 n m : Int}
theorem c_bc (H : Q (I (bcX v1)) h) : X d 222 0 [some (I v1)] [] h Q := z222 H
theorem bc_8 : ∀ c : Nat, c < 8 → (bcX (c : Int) = 1 ↔ (c = 1 ∨ c = 2 ∨ c = 4)) := by decide +kernel
def ordF (i : Nat) : Int := if i = 1 ∨ i = 2 ∨ i = 4 then 1 else 2
def shL (f : Nat → Int) (cs : Nat) : Nat → Nat → Int → Int
  | 0, _, acc => acc
  | k + 1, i, acc => if i.testBit cs = true then shL f cs k (i + 1) acc else shL f cs k (i + 1) (acc + ordF i * (f (i ||| 2 ^ cs) - f i))
theorem shL_0 (f : Nat → Int) : shL f 0 8 0 0 = 0 + 2 * (f 1 - f 0) + 1 * (f 3 - f 2) + 1 * (f 5 - f 4) + 2 * (f 7 - f 6) := rfl
theorem shL_1 (f : Nat → Int) : shL f 1 8 0 0 = 0 + 2 * (f 2 - f 0) + 1 * (f 3 - f 1) + 1 * (f 6 - f 4) + 2 * (f 7 - f 5) := rfl
theorem shL_2 (f : Nat → Int) : shL f 2 8 0 0 = 0 + 2 * (f 4 - f 0) + 1 * (f 5 - f 1) + 1 * (f 6 - f 2) + 2 * (f 7 - f 3) := rfl
def shF (f : Nat → Int) (cs : Nat) (all : Int) : Int := if all = 0 then f ((2 ^ cs - 1) ||| 2 ^ cs) - f (2 ^ cs - 1) else shL f cs 8 0 0
theorem cb4 : ∀ i : Nat, i < 8 → ∀ cs : Nat, cs < 3 → (bAnd (bShr (i : Int) (cs : Int)) 1 = 0 ↔ i.testBit cs = false) := by decide +kernel
theorem cb5 : ∀ cs : Nat, cs < 3 → w32 (bShl 1 (cs : Int) - 1) = ((2 ^ cs - 1 : Nat) : Int) ∧ w32 (bShl 2 (cs : Int) - 1) = (((2 ^ cs - 1) ||| 2 ^ cs : Nat) : Int) ∧ 2 ^ cs - 1 < 8 ∧ (2 ^ cs - 1) ||| 2 ^ cs < 8 := by decide +kernel
def vShare (n v1 v2 : Int) : Prop := vRest n v1 v2
set_option maxHeartbeats 4000000 in
theorem c_share (hR : R h) (H1 : vRest (h 2 0) v1 v2 → (0 ≤ v3 ∧ v3 < 3) → ∀ g y, SCR h g → y = shF (CR h v2.toNat v1.toNat) v3.toNat v4 → Q (I y) g) (H2 : vRest (h 2 0) v1 v2 → ¬ (0 ≤ v3 ∧ v3 < 3) → Q (I (w32 (1000000000 - (-2)))) (rfC h (-2))) (H3 : ¬ vRest (h 2 0) v1 v2 → Q (I (w32 (1000000000 - (-1)))) (rfC h (-1))) : X (d + 10) 117 0 [some (P 0), some (I v1), some (I v2), some (I v3), some (I v4), none, none, none] [] h Q := by
  by_cases hv : vRest (h 2 0) v1 v2
  · by_cases hw : 0 ≤ v3 ∧ v3 < 3
    · have HN := H1 hv hw
      obtain ⟨a0, a1, b0, b1⟩ := hv
      obtain ⟨w0, w1⟩ := hw
      clear H1 H2 H3
      obtain ⟨cs, rfl⟩ := Int.eq_ofNat_of_zero_le w0
      have hk : cs < 3 := by omega
      simp only [Int.toNat_natCast] at HN
      have L : ∀ k i : Nat, i + k = 8 → ∀ (g : HP) (acc : Int), SCR h g → -1200 * (i : Int) ≤ acc → acc ≤ 1200 * (i : Int) → (∀ g y, SCR h g → y = shL (CR h v2.toNat v1.toNat) cs k i acc → Q (I y) g) → X (d + 10) 117 62 [some (P 0), some (I v1), some (I v2), some (I (cs : Int)), some (I v4), some (I acc), some (I (i : Int)), none] [] g Q := by
        intro k
        induction k with
        | zero =>
          intro i hi g acc sg u0 u1 HQ
          exact b117_62 (br_i (fun _ => HQ g _ sg rfl) (fun q => absurd (by omega) q))
        | succ k ih =>
          intro i hi g acc sg u0 u1 HQ
          have c4 := cb4 i (by omega) cs hk
          have b8 := bc_8 i (by omega)
          refine b117_62 (br_i (fun q => absurd q (by omega)) (fun _ => br_i (fun q => c_bc (b117_86 ?_)) (fun q => b117_114 ?_)))
          · have tb := c4.mp q
            have F : ∀ v, v = ordF i → X (d + 10) 117 95 [some (P 0), some (I v1), some (I v2), some (I (cs : Int)), some (I v4), some (I acc), some (I (i : Int)), none] [I v] g Q := by
              intro v hv
              subst hv
              have o12 : ordF i = 1 ∨ ordF i = 2 := by unfold ordF; split <;> simp
              refine b117_95 (c_added (R_scr sg hR) a0 (by rw [sg.1 2 (by decide)]; exact a1) b0 b1 (by omega) hk (fun g2 y s2 ey y0 y1 => b117_110 (b117_114 ?_)))
              rw [CR_s sg] at ey
              have hm : -1200 ≤ ordF i * y ∧ ordF i * y ≤ 1200 := by
                rcases o12 with e | e <;> rw [e] <;> omega
              rw [w32_of (x := ordF i * y) (by omega) (by omega), w32_of (by omega) (by omega), w32_n (by omega)]
              refine ih (i + 1) (by omega) g2 _ (SCR_t sg s2) (by omega) (by omega) (fun g y3 s ey3 => HQ g y3 s ?_)
              rw [ey3, ey]
              show _ = (if i.testBit cs = true then _ else _)
              rw [if_neg (by rw [tb]; decide)]
            refine br_i (fun q2 => F _ ?_) (fun q2 => F _ ?_)
            · unfold ordF; rw [if_neg (fun x => q2 (b8.mpr x))]
            · unfold ordF; rw [if_pos (b8.mp (Classical.not_not.mp q2))]
          · have tb : i.testBit cs = true := by
              cases hb : i.testBit cs
              · exact absurd (c4.mpr hb) q
              · rfl
            rw [w32_n (by omega)]
            refine ih (i + 1) (by omega) g _ sg (by omega) (by omega) (fun g y3 s ey3 => HQ g y3 s ?_)
            rw [ey3]
            show _ = (if i.testBit cs = true then _ else _)
            rw [if_pos tb]
      have c5 := cb5 cs hk
      by_cases e4 : v4 = 0
      · repeat' (first | (exfalso; omega) | (apply br_i <;> intro _) | apply b117_0 | apply z124 | apply b117_5 | apply z123 | apply b117_14 | apply b117_28 | apply an_i | decide | omega)
        rw [c5.1]
        refine c_added hR a0 a1 b0 b1 c5.2.2.1 hk (fun g y s ey _ _ => b117_55 (HN g y s ?_))
        rw [ey]
        unfold shF
        rw [if_pos e4]
      · repeat' (first | (exfalso; omega) | (apply br_i <;> intro _) | apply b117_0 | apply z124 | apply b117_5 | apply z123 | apply b117_14 | apply b117_28 | apply an_i | decide | omega)
        refine L 8 0 rfl h 0 (SCR_r h) (by omega) (by omega) (fun g y s ey => HN g y s ?_)
        rw [ey]
        unfold shF
        rw [if_neg e4]
    · have HN := H2 hv hw
      obtain ⟨a0, a1, b0, b1⟩ := hv
      clear H1 H2 H3
      repeat' (first | exact HN | (exfalso; omega) | (apply br_i <;> intro _) | apply b117_0 | apply z124 | apply b117_5 | apply z123 | apply b117_14 | apply b117_28 | apply z122 | apply b117_37 | apply an_i | decide | omega)
  · have HN := H3 hv
    unfold vRest at hv
    clear H1 H2 H3
    repeat' (first | exact HN | (exfalso; omega) | (apply br_i <;> intro _) | apply b117_0 | apply z124 | apply b117_5 | apply z123 | apply b117_14 | apply b117_17 | apply z122 | apply b117_22 | apply an_i | decide | omega)
theorem cb6 : ∀ cs : Nat, cs < 3 → bShl 1 (cs : Int) = ((2 ^ cs : Nat) : Int) ∧ bShl 1 (Int.tmod (w32 ((cs : Int) + 1)) 3) = ((2 ^ ((cs + 1) % 3) : Nat) : Int) ∧ bShl 1 (Int.tmod (w32 ((cs : Int) + 2)) 3) = ((2 ^ ((cs + 2) % 3) : Nat) : Int) := by decide +kernel
theorem cb7 : ∀ a : Nat, a < 8 → ∀ b : Nat, b < 8 → bOr (a : Int) (b : Int) = ((a ||| b : Nat) : Int) ∧ a ||| b < 8 := by decide +kernel
theorem cb8 : ∀ cs : Nat, cs < 3 → 2 ^ cs < 8 ∧ 2 ^ ((cs + 1) % 3) < 8 ∧ 2 ^ ((cs + 2) % 3) < 8 := by decide +kernel
theorem sh_m (f : Nat → Int) {cs : Nat} (hk : cs < 3) : shL f cs 8 0 0 = 2 * (f (2 ^ cs) - f 0) + 2 * (f 7 - f (2 ^ ((cs + 1) % 3) ||| 2 ^ ((cs + 2) % 3))) + f (2 ^ cs ||| 2 ^ ((cs + 1) % 3)) - f (2 ^ ((cs + 1) % 3)) + f (2 ^ cs ||| 2 ^ ((cs + 2) % 3)) - f (2 ^ ((cs + 2) % 3)) := by
  match cs, hk with
  | 0, _ =>
    show shL f 0 8 0 0 = 2 * (f 1 - f 0) + 2 * (f 7 - f 6) + f 3 - f 2 + f 5 - f 4
    rw [shL_0]; omega
  | 1, _ =>
    show shL f 1 8 0 0 = 2 * (f 2 - f 0) + 2 * (f 7 - f 5) + f 6 - f 4 + f 3 - f 1
    rw [shL_1]; omega
  | 2, _ =>
    show shL f 2 8 0 0 = 2 * (f 4 - f 0) + 2 * (f 7 - f 3) + f 5 - f 1 + f 6 - f 2
    rw [shL_2]; omega
set_option maxHeartbeats 4000000 in
theorem m_share (e : h 69 9 = n) (H1 : vRest n v1 v2 → (0 ≤ v3 ∧ v3 < 3) → R h ∧ ∀ g y, SCR h g → y = shF (CR h v2.toNat v1.toNat) v3.toNat v4 → Q (I y) g) (H2 : vRest n v1 v2 → ¬ (0 ≤ v3 ∧ v3 < 3) → Q (I (w32 (1000000000 - (-2)))) (rfM h (-2))) (H3 : ¬ vRest n v1 v2 → Q (I (w32 (1000000000 - (-1)))) (rfM h (-1))) : X (d + 10) 219 0 [some (P 69), some (I v1), some (I v2), some (I v3), some (I v4), none, none, none, none] [] h Q := by
  by_cases hv : vRest n v1 v2
  · by_cases hw : 0 ≤ v3 ∧ v3 < 3
    · obtain ⟨hR, HN⟩ := H1 hv hw
      obtain ⟨a0, a1, b0, b1⟩ := hv
      obtain ⟨w0, w1⟩ := hw
      clear H1 H2 H3
      have cn := (R_cnt hR).1.1
      have a2 : v1 < h 2 0 := by omega
      obtain ⟨cs, rfl⟩ := Int.eq_ofNat_of_zero_le w0
      have hk : cs < 3 := by omega
      simp only [Int.toNat_natCast] at HN
      have c5 := cb5 cs hk
      have c6 := cb6 cs hk
      have c8 := cb8 cs hk
      have M : ∀ {c : Nat} {g : HP} {K : PV → HP → Prop}, c < 8 → SCR h g → (∀ k y, SCR h k → y = CR h v2.toNat v1.toNat c → 0 ≤ y → y ≤ 600 → K (I y) k) → X (d + 9) 218 0 [some (P 69), some (I v1), some (I v2), some (I (c : Int)), none] [] g K := by
        intro c g K hc sg HK
        refine m_restBy (R_scr sg hR) a0 (by rw [sg.1 2 (by decide)]; exact a2) b0 b1 hc (fun k y s ey y0 y6 => HK k y (SCR_t sg s) ?_ y0 y6)
        rw [CR_s sg] at ey
        exact ey
      by_cases e4 : v4 = 0
      · repeat' (first | (exfalso; omega) | (apply br_i <;> intro _) | apply b219_0 | apply z136 | apply b219_5 | apply z137 | apply b219_12 | apply z134 | apply b219_31 | apply an_i | decide | omega)
        rw [c5.2.1]
        refine M c5.2.2.2 (SCR_r h) (fun k y s ey y0 y6 => b219_61 ?_)
        rw [c5.1]
        refine M c5.2.2.1 s (fun k2 y2 s2 ey2 z0 z6 => b219_72 (HN k2 _ s2 ?_))
        unfold shF
        rw [if_pos e4, w32_of (by omega) (by omega), ey, ey2]
      · repeat' (first | (exfalso; omega) | (apply br_i <;> intro _) | apply b219_0 | apply z136 | apply b219_5 | apply z137 | apply b219_12 | apply z134 | apply b219_31 | apply an_i | decide | omega)
        rw [c6.1, c6.2.1, c6.2.2]
        have g1 := cb7 _ c8.2.1 _ c8.2.2
        have g2 := cb7 _ c8.1 _ c8.2.1
        have g3 := cb7 _ c8.1 _ c8.2.2
        refine M c8.1 (SCR_r h) (fun k1 y1 s1 e1 p1 q1 => b219_106 ?_)
        refine M (c := 0) (by decide) s1 (fun k2 y2 s2 e2 p2 q2 => b219_113 ?_)
        refine M (c := 7) (by decide) s2 (fun k3 y3 s3 e3 p3 q3 => b219_124 ?_)
        rw [g1.1]
        refine M g1.2 s3 (fun k4 y4 s4 e4' p4 q4 => b219_135 ?_)
        rw [g2.1]
        refine M g2.2 s4 (fun k5 y5 s5 e5 p5 q5 => b219_153 ?_)
        refine M c8.2.1 s5 (fun k6 y6 s6 e6 p6 q6 => b219_162 ?_)
        rw [g3.1]
        refine M g3.2 s6 (fun k7 y7 s7 e7 p7 q7 => b219_174 ?_)
        refine M c8.2.2 s7 (fun k8 y8 s8 e8 p8 q8 => b219_183 (HN k8 _ s8 ?_))
        unfold shF
        rw [if_neg e4, sh_m _ hk, ← e1, ← e2, ← e3, ← e4', ← e5, ← e6, ← e7, ← e8]
        unfold w32
        omega
    · have HN := H2 hv hw
      obtain ⟨a0, a1, b0, b1⟩ := hv
      clear H1 H2 H3
      repeat' (first | exact HN | (exfalso; omega) | (apply br_i <;> intro _) | apply b219_0 | apply z136 | apply b219_5 | apply z137 | apply b219_12 | apply z134 | apply b219_31 | apply z135 | apply b219_43 | apply an_i | decide | omega)
  · have HN := H3 hv
    unfold vRest at hv
    clear H1 H2 H3
    repeat' (first | exact HN | (exfalso; omega) | (apply br_i <;> intro _) | apply b219_0 | apply z136 | apply b219_5 | apply z137 | apply b219_12 | apply b219_15 | apply z135 | apply b219_23 | apply an_i | decide | omega)
theorem p_share (hR : R h) : X (d + 10) 117 0 [some (P 0), some (I v1), some (I v2), some (I v3), some (I v4), none, none, none] [] h (fun r h1 => X (d + 10) 219 0 [some (P 69), some (I v1), some (I v2), some (I v3), some (I v4), none, none, none, none] [] h1 (fun r' h2 => EQA r r' h2)) :=
  c_share hR (fun hv hw g y sg ey => m_share (n_scr hR sg) (fun _ _ => ⟨R_scr sg hR, fun g2 y2 s2 ey2 => ⟨by rw [ey, ey2, CR_s sg], R_scr s2 (R_scr sg hR)⟩⟩) (fun _ hn => absurd hw hn) (fun hn => absurd hv hn))
    (fun hv hn => m_share (n_rf hR) (fun _ hw => absurd hw hn) (fun _ _ => EQA_rf hR) (fun hn => absurd hv hn))
    (fun hn => m_share (n_rf hR) (fun hv => absurd hv hn) (fun hv => absurd hv hn) (fun _ => EQA_rf hR))
end P46
