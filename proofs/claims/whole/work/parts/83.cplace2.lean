/-! boxes placed best: the class's call -/
section P83
variable {d : Nat} {h g k : HP} {Q : PV → HP → Prop} {v1 v2 v3 v4 : Int}
def PA (h : HP) (v1 v2 v3 : Int) : Prop := (0 ≤ v1 ∧ v1 < 12) ∧ (0 ≤ v2 ∧ bShr v2 (h 22 2) = 0) ∧ (0 ≤ v3 ∧ bShr v3 (h 2 0) = 0)
theorem shr_0 {v : Int} {c : Int} (v0 : 0 ≤ v) (v1 : v ≤ 2147483647) (c0 : 0 ≤ c) (c8 : c ≤ 8) (e : bShr v c = 0) : ∃ n : Nat, v = (n : Int) ∧ n < 256 ∧ ∀ j, n.testBit j = true → (j : Int) < c := by
  obtain ⟨n, rfl⟩ := Int.eq_ofNat_of_zero_le v0
  obtain ⟨k, rfl⟩ := Int.eq_ofNat_of_zero_le c0
  rw [bShr_n (by omega) (by omega)] at e
  have e' : n / 2 ^ k = 0 := by omega
  have lt : n < 2 ^ k := by
    rcases Nat.div_eq_zero_iff.mp e' with x | x
    · have : 0 < 2 ^ k := Nat.two_pow_pos k
      omega
    · exact x
  have h8 : 2 ^ k ≤ 2 ^ 8 := Nat.pow_le_pow_right (by decide) (by omega)
  refine ⟨n, rfl, by omega, fun j hj => ?_⟩
  apply Classical.byContradiction
  intro q
  have h9 : 2 ^ k ≤ 2 ^ j := Nat.pow_le_pow_right (by decide) (by omega)
  rw [Nat.testBit_lt_two_pow (Nat.lt_of_lt_of_le lt h9)] at hj
  cases hj
theorem p8_r {M : Nat} (hM : M ≤ 3) : bShl 1 (w32 (3 * (M : Int))) = ((8 ^ M : Nat) : Int) ∧ 8 ^ M ≤ 512 := by
  have : M = 0 ∨ M = 1 ∨ M = 2 ∨ M = 3 := by omega
  rcases this with e | e | e | e <;> subst e <;> decide
def ansC (M : Nat) (v4 v : Int) (r : Nat) : Int := if v4 = 0 then v else if v = -9 then v else ((dg M r (v4.toNat - 1) : Nat) : Int)
set_option maxHeartbeats 4000000 in
theorem c_plRows {hr bs ps M : Nat} {g0 : HP} (hR : R h) (hb : bs < 256) (hbn : ∀ j, bs.testBit j = true → (j : Int) < h 22 2) (hp : ps < 256) (eM : rnk bs 8 = M) (hM : M ≤ 3) (h40 : 0 ≤ v4) (h4M : v4 ≤ M) (a0 : SCR h g0) (m0 : ∀ q, 69 ≤ q → g0 q = h q) (hS : SCP h g0 hr (h 23)) (H : ∀ g v r, BPN (hot h hr bs M) (vld ps M) (8 ^ M) v r → SCR h g → (∀ q, 69 ≤ q → g q = h q) → Q (I (ansC M v4 v r)) g) : X (d + 6) 110 112 [some (P 0), some (I v1), some (I (bs : Int)), some (I (ps : Int)), some (I v4), some (I (M : Int)), some (I (-9)), some (I 0), some (I 0), none] [] g0 Q := by
  obtain ⟨p8, p5⟩ := p8_r hM
  have n8 := (R_cnt hR).2.2.2.2.1
  have L : ∀ m r : Nat, r + m = 8 ^ M → ∀ (g : HP) (st : Nat → Int) (v : Int) (r0 : Nat), BPN (hot h hr bs M) (vld ps M) r v r0 → r0 < 512 → SCR h g → (∀ q, 69 ≤ q → g q = h q) → SCP h g hr st → (∀ j, ¬ bs.testBit j = true → st j = h 23 j) → X (d + 6) 110 112 [some (P 0), some (I v1), some (I (bs : Int)), some (I (ps : Int)), some (I v4), some (I (M : Int)), some (I v), some (I (r0 : Int)), some (I (r : Int)), none] [] g Q := by
    intro m
    induction m with
    | zero =>
      intro r hr' g st v r0 hB r05 sg mg hS hst
      have er : r = 8 ^ M := by omega
      subst er
      have HN := H g v r0 hB sg mg
      unfold ansC at HN
      refine b110_112 ?_
      rw [p8]
      refine br_i (fun _ => br_i (fun q => ?_) (fun q => br_i (fun q2 => ?_) (fun q2 => ?_))) (fun q => absurd (Int.le_refl _) q)
      · rw [if_pos q] at HN; exact HN
      · rw [if_neg q, if_neg q2] at HN
        have ew : w32 (3 * w32 ((M : Int) - v4)) = ((3 * (M - 1 - (v4.toNat - 1)) : Nat) : Int) := by
          rw [w32_of (x := (M : Int) - v4) (by omega) (by omega), w32_of (by omega) (by omega)]
          omega
        rw [ew, dg_e hM (by omega) r05]
        exact HN
      · have q2' := Classical.not_not.mp q2
        rw [if_neg q, if_pos q2'] at HN
        exact HN
    | succ m ih =>
      intro r hr' g st v r0 hB r05 sg mg hS hst
      have r5 : r < 512 := by omega
      refine b110_112 ?_
      rw [p8]
      refine br_i (fun q => absurd q (by omega)) (fun _ => c_put hb hp eM hM r5 hS hst (fun hv g1 st1' f1 S1 e1 e2 => b110_136 (br_i (fun _ => ?_) (fun x => absurd (by decide) x))) (fun hn g1 st1' f1 S1 e2 => b110_136 (br_i (fun x => absurd rfl x) (fun _ => b110_173 ?_))))
      · have s1 : SCR h g1 := SCR_o sg (fun q hq => f1 q (by omega))
        have eh : mxw (RVS h hr st1') (h 2 0).toNat = hot h hr bs M r := by
          unfold hot
          rw [RVS_c (st := st1') (st' := plc h bs M r) (fun j hj => e1 j (by omega))]
        have hh : 0 ≤ hot h hr bs M r := by
          unfold hot
          exact mxw_0 _ _
        refine c_hot hR s1 S1 (fun k fk Sk => b110_149 ?_)
        rw [eh]
        have sk : SCR h k := SCR_FS s1 fk
        have mk : ∀ q, 69 ≤ q → k q = h q := fun q hq => by rw [fk q (by omega), f1 q (by omega)]; exact mg q hq
        have NEW : (v = -9 ∨ hot h hr bs M r < v) → ∀ v9, v9 = hot h hr bs M r → X (d + 6) 110 165 [some (P 0), some (I v1), some (I (bs : Int)), some (I (ps : Int)), some (I v4), some (I (M : Int)), some (I v), some (I (r0 : Int)), some (I (r : Int)), some (I v9)] [] k Q := by
          intro hc v9 e9
          subst e9
          refine b110_165 (b110_173 ?_)
          rw [w32_n (by omega)]
          exact ih (r + 1) (by omega) k st1' _ r (BPN_nw hB hc hv hh) r5 sk mk Sk e2
        refine br_i (fun q => NEW (Or.inl q) _ rfl) (fun q => br_i (fun q2 => b110_173 ?_) (fun q2 => NEW (Or.inr (by omega)) _ rfl))
        rw [w32_n (by omega)]
        exact ih (r + 1) (by omega) k st1' v r0 (BPN_kp hB q q2) r05 sk mk Sk e2
      · rw [w32_n (by omega)]
        refine ih (r + 1) (by omega) g1 st1' v r0 (BPN_no hB (by omega) (fun s h1 h2 => ?_)) r05 (SCR_o sg (fun q hq => f1 q (by omega))) (fun q hq => by rw [f1 q (by omega)]; exact mg q hq) S1 e2
        have es : s = r := by omega
        subst es
        exact hn
  exact L (8 ^ M) 0 (by omega) g0 (h 23) (-9) 0 (Or.inl ⟨rfl, fun s hs => absurd hs (by omega)⟩) (by decide) a0 m0 hS (fun _ _ => rfl)
set_option maxHeartbeats 4000000 in
theorem c_place (hR : R h) (i2 : i32 v2) (i3 : i32 v3) (H1 : ∀ bs ps M : Nat, PA h v1 v2 v3 → (0 ≤ v4 ∧ v4 < 4) → v2 = (bs : Int) → v3 = (ps : Int) → bs < 256 → ps < 256 → (∀ j, bs.testBit j = true → (j : Int) < h 22 2) → (∀ j, ps.testBit j = true → (j : Int) < h 2 0) → rnk bs 8 = M → (M ≤ 3 → v4 ≤ M → ∀ g v r, BPN (hot h v1.toNat bs M) (vld ps M) (8 ^ M) v r → SCR h g → (∀ q, 69 ≤ q → g q = h q) → Q (I (ansC M v4 v r)) g) ∧ (M ≤ 3 → ¬ v4 ≤ M → Q (I (-9)) h) ∧ (¬ M ≤ 3 → Q (I (-6)) (rfC h (-6)))) (H2 : PA h v1 v2 v3 → ¬ (0 ≤ v4 ∧ v4 < 4) → Q (I (-2)) (rfC h (-2))) (H3 : ¬ PA h v1 v2 v3 → Q (I (-1)) (rfC h (-1))) : X (d + 7) 110 0 [some (P 0), some (I v1), some (I v2), some (I v3), some (I v4), none, none, none, none, none] [] h Q := by
  obtain ⟨-, n8, -, -, c8, -⟩ := R_cnt hR
  have E3 : ¬ PA h v1 v2 v3 → X (d + 7) 110 43 [some (P 0), some (I v1), some (I v2), some (I v3), some (I v4), none, none, none, none, none] [] h Q := fun hn => b110_43 (z121 ⟨by decide, by decide, b110_48 (H3 hn)⟩)
  by_cases a1 : 0 ≤ v1 ∧ v1 < 12
  · have G1 : X (d + 6) 125 0 [some (I v2), some (I (h 22 2))] [] h (fun r h' => X (d + 7) 110 23 [some (P 0), some (I v1), some (I v2), some (I v3), some (I v4), none, none, none, none, none] [r] h' Q) := by
      by_cases a2 : 0 ≤ v2 ∧ bShr v2 (h 22 2) = 0
      · refine z125 (br_i (fun q => absurd q (by omega)) (fun _ => br_i (fun _ => b110_23 (br_i (fun x => absurd rfl x) (fun _ => ?_))) (fun q => absurd a2.2 q)))
        by_cases a3 : 0 ≤ v3 ∧ bShr v3 (h 2 0) = 0
        · refine z125 (br_i (fun q => absurd q (by omega)) (fun _ => br_i (fun _ => b110_40 (br_i (fun _ => ?_) (fun x => absurd rfl x))) (fun q => absurd a3.2 q)))
          have pa : PA h v1 v2 v3 := ⟨a1, a2, a3⟩
          by_cases a4 : 0 ≤ v4 ∧ v4 < 4
          · obtain ⟨bs, e2, b2, t2⟩ := shr_0 a2.1 i2.2 c8.1 c8.2 a2.2
            obtain ⟨ps, e3, b3, t3⟩ := shr_0 a3.1 i3.2 n8.1 n8.2 a3.2
            obtain ⟨N1, N2, N6⟩ := H1 bs ps (rnk bs 8) pa a4 e2 e3 b2 b3 t2 t3 rfl
            subst e2 e3
            refine z123 (br_i (fun q => absurd q (by omega)) (fun _ => br_i (fun _ => b110_55 (br_i (fun _ => z222c (by omega) (b110_69 ?_)) (fun x => absurd rfl x))) (fun q => absurd a4.2 q)))
            rw [rnk_c b2]
            refine br_i (fun q => br_i (fun q2 => ?_) (fun q2 => N2 (by omega) (by omega))) (fun q => z121 ⟨by decide, by decide, b110_83 (N6 (by omega))⟩)
            refine c_asNow (d := d + 5) hR a1.1 a1.2 (fun g o hN => b110_102 ?_)
            exact c_plRows (d := d + 1) hR b2 t2 b3 rfl (by omega) a4.1 q2 (o_scr o) (fun q hq => o q (by omega) (by omega) (by omega)) (NOW_s hR o hN) (N1 (by omega) q2)
          · have F := H2 pa a4
            refine z123 (br_i (fun q => b110_55 (br_i (fun x => absurd x (by decide)) (fun _ => z121 ⟨by decide, by decide, b110_64 F⟩))) (fun q => br_i (fun q2 => absurd ⟨by omega, q2⟩ a4) (fun q2 => b110_55 (br_i (fun x => absurd x (by decide)) (fun _ => z121 ⟨by decide, by decide, b110_64 F⟩)))))
        · have F := E3 (fun x => a3 x.2.2)
          exact z125 (br_i (fun q => b110_40 (br_i (fun x => absurd x (by decide)) (fun _ => F))) (fun q => br_i (fun q2 => absurd ⟨by omega, q2⟩ a3) (fun q2 => b110_40 (br_i (fun x => absurd x (by decide)) (fun _ => F)))))
      · have F := E3 (fun x => a2 x.2.1)
        exact z125 (br_i (fun q => b110_23 (br_i (fun _ => F) (fun x => absurd (by decide) x))) (fun q => br_i (fun q2 => absurd ⟨by omega, q2⟩ a2) (fun q2 => b110_23 (br_i (fun _ => F) (fun x => absurd (by decide) x)))))
    exact b110_0 (z123 (br_i (fun q => absurd q (by omega)) (fun _ => br_i (fun _ => b110_6 (br_i (fun x => absurd rfl x) (fun _ => G1))) (fun q => absurd a1.2 q))))
  · have F := E3 (fun x => a1 x.1)
    exact b110_0 (z123 (br_i (fun q => b110_6 (br_i (fun _ => F) (fun x => absurd (by decide) x))) (fun q => br_i (fun q2 => absurd ⟨by omega, q2⟩ a1) (fun q2 => b110_6 (br_i (fun _ => F) (fun x => absurd (by decide) x))))))
end P83
