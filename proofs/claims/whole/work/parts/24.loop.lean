/-! the law's loop: whole out of PAIRS -/
theorem yh18 : cdA 227 18 = some (.iload_n 3) := by decide +kernel
theorem yh19 : cdA 227 19 = some (.aload_n 0) := by decide +kernel
theorem yh20 : cdA 227 20 = some (.arraylength) := by decide +kernel
theorem yh21 : cdA 227 21 = some (.bipush 6) := by decide +kernel
theorem yh23 : cdA 227 23 = some (.isub) := by decide +kernel
theorem yh24 : cdA 227 24 = some (.if_icmp .gt 1756) := by decide +kernel
theorem yh27 : cdA 227 27 = some (.aload_n 0) := by decide +kernel
theorem yh28 : cdA 227 28 = some (.iload_n 3) := by decide +kernel
theorem yh29 : cdA 227 29 = some (.iaload) := by decide +kernel
theorem yh30 : cdA 227 30 = some (.bipush 63) := by decide +kernel
theorem yh32 : cdA 227 32 = some (.iand) := by decide +kernel
theorem yh33 : cdA 227 33 = some (.tableswitch 1741 0 40 #[179, 222, 255, 288, 357, 390, 423, 466, 509, 558, 591, 640, 673, 696, 755, 818, 831, 854, 877, 910, 934, 967, 1000, 1033, 1092, 1115, 1184, 1237, 1270, 1333, 1366, 1419, 1462, 1521, 1544, 1577, 1600, 1623, 1692, 1705, 1718]) := by decide +kernel
theorem yh1774 : cdA 227 1774 = some (.iinc 3 6) := by decide +kernel
theorem yh1777 : cdA 227 1777 = some (.goto (-1759)) := by decide +kernel
theorem yh1780 : cdA 227 1780 = some (.iconst 1) := by decide +kernel
theorem yh1781 : cdA 227 1781 = some (.ireturn) := by decide +kernel
set_option maxHeartbeats 4000000 in
theorem law_loop (HPs : PAIRS) {S : SC} {n : Nat} (hS : S.1 = n + 1) (hn : n ≤ 3072) (hr : ∀ j, i32 (S.2 j)) : ∀ (m : Nat) (i : Int) (h : HP), 0 ≤ i → i ≤ n + 6 → (n : Int) + 6 - i < m → R h → Y S 18 [some PX, some (P 0), some (P 69), some (I i)] [] h := by
  intro m
  induction m with
  | zero => intro i h hi h1 h2; omega
  | succ m ih =>
    intro i h hi h1 h2 hR
    refine y_iload yh18 rfl (y_aloadX yh19 rfl (y_slen hS yh20 (by omega) (y_bipush yh21 ⟨by decide, by decide⟩ (y_isub yh23 (y_ifc 1780 (w32 ((n : Int) - 6) < i) yh24 (by decide) rfl (fun _ => y_iconst yh1780 rfl (y_ret yh1781)) (fun q => ?_))))))
    have e6 : w32 ((n : Int) - 6) = n - 6 := w32_of (by omega) (by omega)
    rw [e6] at q
    have h6 : i + 6 ≤ n := by omega
    have Hk : ∀ h', R h' → Y S 1774 [some PX, some (P 0), some (P 69), some (I i)] [] h' := fun h' hR' => y_iinc yh1774 rfl rfl rfl (y_goto 18 yh1777 (by decide) (by
      have e7 : w32 (i + 6) = i + 6 := w32_of (by omega) (by omega)
      have := ih (i + 6) h' (by omega) (by omega) (by omega) hR'
      rw [← e7] at this
      exact this))
    refine y_aloadX yh27 rfl (y_iload yh28 rfl (y_sld hS yh29 ⟨hi, by omega⟩ (y_bipush yh30 ⟨by decide, by decide⟩ (y_iand yh32 (y_tsw 1774 yh33 (by decide) (fun _ => Hk h hR) (fun qn => ?_))))))
    have qc : bAnd (S.2 i.toNat) 63 = 0 ∨ bAnd (S.2 i.toNat) 63 = 1 ∨ bAnd (S.2 i.toNat) 63 = 2 ∨ bAnd (S.2 i.toNat) 63 = 3 ∨ bAnd (S.2 i.toNat) 63 = 4 ∨ bAnd (S.2 i.toNat) 63 = 5 ∨ bAnd (S.2 i.toNat) 63 = 6 ∨ bAnd (S.2 i.toNat) 63 = 7 ∨ bAnd (S.2 i.toNat) 63 = 8 ∨ bAnd (S.2 i.toNat) 63 = 9 ∨ bAnd (S.2 i.toNat) 63 = 10 ∨ bAnd (S.2 i.toNat) 63 = 11 ∨ bAnd (S.2 i.toNat) 63 = 12 ∨ bAnd (S.2 i.toNat) 63 = 13 ∨ bAnd (S.2 i.toNat) 63 = 14 ∨ bAnd (S.2 i.toNat) 63 = 15 ∨ bAnd (S.2 i.toNat) 63 = 16 ∨ bAnd (S.2 i.toNat) 63 = 17 ∨ bAnd (S.2 i.toNat) 63 = 18 ∨ bAnd (S.2 i.toNat) 63 = 19 ∨ bAnd (S.2 i.toNat) 63 = 20 ∨ bAnd (S.2 i.toNat) 63 = 21 ∨ bAnd (S.2 i.toNat) 63 = 22 ∨ bAnd (S.2 i.toNat) 63 = 23 ∨ bAnd (S.2 i.toNat) 63 = 24 ∨ bAnd (S.2 i.toNat) 63 = 25 ∨ bAnd (S.2 i.toNat) 63 = 26 ∨ bAnd (S.2 i.toNat) 63 = 27 ∨ bAnd (S.2 i.toNat) 63 = 28 ∨ bAnd (S.2 i.toNat) 63 = 29 ∨ bAnd (S.2 i.toNat) 63 = 30 ∨ bAnd (S.2 i.toNat) 63 = 31 ∨ bAnd (S.2 i.toNat) 63 = 32 ∨ bAnd (S.2 i.toNat) 63 = 33 ∨ bAnd (S.2 i.toNat) 63 = 34 ∨ bAnd (S.2 i.toNat) 63 = 35 ∨ bAnd (S.2 i.toNat) 63 = 36 ∨ bAnd (S.2 i.toNat) 63 = 37 ∨ bAnd (S.2 i.toNat) 63 = 38 ∨ bAnd (S.2 i.toNat) 63 = 39 ∨ bAnd (S.2 i.toNat) 63 = 40 := by omega
    rcases qc with q | q | q | q | q | q | q | q | q | q | q | q | q | q | q | q | q | q | q | q | q | q | q | q | q | q | q | q | q | q | q | q | q | q | q | q | q | q | q | q | q
    · exact ⟨179, 212, by rw [q]; rfl, by decide, lw_c0 hS hi h6 hn hr (HPs.1 h hR) Hk⟩
    · exact ⟨222, 255, by rw [q]; rfl, by decide, lw_c1 hS hi h6 hn hr (HPs.2.1 h hR) Hk⟩
    · exact ⟨255, 288, by rw [q]; rfl, by decide, lw_c2 hS hi h6 hn hr (HPs.2.2.1 h hR) Hk⟩
    · exact ⟨288, 321, by rw [q]; rfl, by decide, lw_c3 hS hi h6 hn hr (HPs.2.2.2.1 h hR) Hk⟩
    · exact ⟨357, 390, by rw [q]; rfl, by decide, lw_c4 hS hi h6 hn hr (HPs.2.2.2.2.1 h hR) Hk⟩
    · exact ⟨390, 423, by rw [q]; rfl, by decide, lw_c5 hS hi h6 hn hr (HPs.2.2.2.2.2.1 h hR) Hk⟩
    · exact ⟨423, 456, by rw [q]; rfl, by decide, lw_c6 hS hi h6 hn hr (HPs.2.2.2.2.2.2.1 h hR) Hk⟩
    · exact ⟨466, 499, by rw [q]; rfl, by decide, lw_c7 hS hi h6 hn hr (HPs.2.2.2.2.2.2.2.1 h hR) Hk⟩
    · exact ⟨509, 542, by rw [q]; rfl, by decide, lw_c8 hS hi h6 hn hr (HPs.2.2.2.2.2.2.2.2.1 h hR) Hk⟩
    · exact ⟨558, 591, by rw [q]; rfl, by decide, lw_c9 hS hi h6 hn hr (HPs.2.2.2.2.2.2.2.2.2.1 h hR) Hk⟩
    · exact ⟨591, 624, by rw [q]; rfl, by decide, lw_c10 hS hi h6 hn hr (HPs.2.2.2.2.2.2.2.2.2.2.1 h hR) Hk⟩
    · exact ⟨640, 673, by rw [q]; rfl, by decide, lw_c11 hS hi h6 hn hr (HPs.2.2.2.2.2.2.2.2.2.2.2.1 h hR) Hk⟩
    · exact ⟨673, 706, by rw [q]; rfl, by decide, lw_c12 hS hi h6 hn hr (HPs.2.2.2.2.2.2.2.2.2.2.2.2.1 h hR) Hk⟩
    · exact ⟨696, 729, by rw [q]; rfl, by decide, lw_c13 hS hi h6 hn hr (HPs.2.2.2.2.2.2.2.2.2.2.2.2.2.1 h hR) Hk⟩
    · exact ⟨755, 788, by rw [q]; rfl, by decide, lw_c14 hS hi h6 hn hr (HPs.2.2.2.2.2.2.2.2.2.2.2.2.2.2.1 h hR) Hk⟩
    · exact ⟨818, 851, by rw [q]; rfl, by decide, lw_c15 hS hi h6 hn hr (HPs.2.2.2.2.2.2.2.2.2.2.2.2.2.2.2.1 h hR) Hk⟩
    · exact ⟨831, 864, by rw [q]; rfl, by decide, lw_c16 hS hi h6 hn hr (HPs.2.2.2.2.2.2.2.2.2.2.2.2.2.2.2.2.1 h hR) Hk⟩
    · exact ⟨854, 887, by rw [q]; rfl, by decide, lw_c17 hS hi h6 hn hr (HPs.2.2.2.2.2.2.2.2.2.2.2.2.2.2.2.2.2.1 h hR) Hk⟩
    · exact ⟨877, 910, by rw [q]; rfl, by decide, lw_c18 hS hi h6 hn hr (HPs.2.2.2.2.2.2.2.2.2.2.2.2.2.2.2.2.2.2.1 h hR) Hk⟩
    · exact ⟨910, 943, by rw [q]; rfl, by decide, lw_c19 hS hi h6 hn hr (HPs.2.2.2.2.2.2.2.2.2.2.2.2.2.2.2.2.2.2.2.1 h hR) Hk⟩
    · exact ⟨934, 967, by rw [q]; rfl, by decide, lw_c20 hS hi h6 hn hr (HPs.2.2.2.2.2.2.2.2.2.2.2.2.2.2.2.2.2.2.2.2.1 h hR) Hk⟩
    · exact ⟨967, 1000, by rw [q]; rfl, by decide, lw_c21 hS hi h6 hn hr (HPs.2.2.2.2.2.2.2.2.2.2.2.2.2.2.2.2.2.2.2.2.2.1 h hR) Hk⟩
    · exact ⟨1000, 1033, by rw [q]; rfl, by decide, lw_c22 hS hi h6 hn hr (HPs.2.2.2.2.2.2.2.2.2.2.2.2.2.2.2.2.2.2.2.2.2.2.1 h hR) Hk⟩
    · exact ⟨1033, 1066, by rw [q]; rfl, by decide, lw_c23 hS hi h6 hn hr (HPs.2.2.2.2.2.2.2.2.2.2.2.2.2.2.2.2.2.2.2.2.2.2.2.1 h hR) Hk⟩
    · exact ⟨1092, 1125, by rw [q]; rfl, by decide, lw_c24 hS hi h6 hn hr (HPs.2.2.2.2.2.2.2.2.2.2.2.2.2.2.2.2.2.2.2.2.2.2.2.2.1 h hR) Hk⟩
    · exact ⟨1115, 1148, by rw [q]; rfl, by decide, lw_c25 hS hi h6 hn hr (HPs.2.2.2.2.2.2.2.2.2.2.2.2.2.2.2.2.2.2.2.2.2.2.2.2.2.1 h hR) Hk⟩
    · exact ⟨1184, 1217, by rw [q]; rfl, by decide, lw_c26 hS hi h6 hn hr (HPs.2.2.2.2.2.2.2.2.2.2.2.2.2.2.2.2.2.2.2.2.2.2.2.2.2.2.1 h hR) Hk⟩
    · exact ⟨1237, 1270, by rw [q]; rfl, by decide, lw_c27 hS hi h6 hn hr (HPs.2.2.2.2.2.2.2.2.2.2.2.2.2.2.2.2.2.2.2.2.2.2.2.2.2.2.2.1 h hR) Hk⟩
    · exact ⟨1270, 1303, by rw [q]; rfl, by decide, lw_c28 hS hi h6 hn hr (HPs.2.2.2.2.2.2.2.2.2.2.2.2.2.2.2.2.2.2.2.2.2.2.2.2.2.2.2.2.1 h hR) Hk⟩
    · exact ⟨1333, 1366, by rw [q]; rfl, by decide, lw_c29 hS hi h6 hn hr (HPs.2.2.2.2.2.2.2.2.2.2.2.2.2.2.2.2.2.2.2.2.2.2.2.2.2.2.2.2.2.1 h hR) Hk⟩
    · exact ⟨1366, 1399, by rw [q]; rfl, by decide, lw_c30 hS hi h6 hn hr (HPs.2.2.2.2.2.2.2.2.2.2.2.2.2.2.2.2.2.2.2.2.2.2.2.2.2.2.2.2.2.2.1 h hR) Hk⟩
    · exact ⟨1419, 1452, by rw [q]; rfl, by decide, lw_c31 hS hi h6 hn hr (HPs.2.2.2.2.2.2.2.2.2.2.2.2.2.2.2.2.2.2.2.2.2.2.2.2.2.2.2.2.2.2.2.1 h hR) Hk⟩
    · exact ⟨1462, 1495, by rw [q]; rfl, by decide, lw_c32 hS hi h6 hn hr (HPs.2.2.2.2.2.2.2.2.2.2.2.2.2.2.2.2.2.2.2.2.2.2.2.2.2.2.2.2.2.2.2.2.1 h hR) Hk⟩
    · exact ⟨1521, 1554, by rw [q]; rfl, by decide, lw_c33 hS hi h6 hn hr (HPs.2.2.2.2.2.2.2.2.2.2.2.2.2.2.2.2.2.2.2.2.2.2.2.2.2.2.2.2.2.2.2.2.2.1 h hR) Hk⟩
    · exact ⟨1544, 1577, by rw [q]; rfl, by decide, lw_c34 hS hi h6 hn hr (HPs.2.2.2.2.2.2.2.2.2.2.2.2.2.2.2.2.2.2.2.2.2.2.2.2.2.2.2.2.2.2.2.2.2.2.1 h hR) Hk⟩
    · exact ⟨1577, 1610, by rw [q]; rfl, by decide, lw_c35 hS hi h6 hn hr (HPs.2.2.2.2.2.2.2.2.2.2.2.2.2.2.2.2.2.2.2.2.2.2.2.2.2.2.2.2.2.2.2.2.2.2.2.1 h hR) Hk⟩
    · exact ⟨1600, 1633, by rw [q]; rfl, by decide, lw_c36 hS hi h6 hn hr (HPs.2.2.2.2.2.2.2.2.2.2.2.2.2.2.2.2.2.2.2.2.2.2.2.2.2.2.2.2.2.2.2.2.2.2.2.2.1 h hR) Hk⟩
    · exact ⟨1623, 1656, by rw [q]; rfl, by decide, lw_c37 hS hi h6 hn hr (HPs.2.2.2.2.2.2.2.2.2.2.2.2.2.2.2.2.2.2.2.2.2.2.2.2.2.2.2.2.2.2.2.2.2.2.2.2.2.1 h hR) Hk⟩
    · exact ⟨1692, 1725, by rw [q]; rfl, by decide, lw_c38 hS hi h6 hn hr (HPs.2.2.2.2.2.2.2.2.2.2.2.2.2.2.2.2.2.2.2.2.2.2.2.2.2.2.2.2.2.2.2.2.2.2.2.2.2.2.1 h hR) Hk⟩
    · exact ⟨1705, 1738, by rw [q]; rfl, by decide, lw_c39 hS hi h6 hn hr (HPs.2.2.2.2.2.2.2.2.2.2.2.2.2.2.2.2.2.2.2.2.2.2.2.2.2.2.2.2.2.2.2.2.2.2.2.2.2.2.2.1 h hR) Hk⟩
    · exact ⟨1718, 1751, by rw [q]; rfl, by decide, lw_c40 hS hi h6 hn hr (HPs.2.2.2.2.2.2.2.2.2.2.2.2.2.2.2.2.2.2.2.2.2.2.2.2.2.2.2.2.2.2.2.2.2.2.2.2.2.2.2.2 h hR) Hk⟩
theorem law_all (HPs : PAIRS) {S : SC} {n : Nat} (hS : S.1 = n + 1) (hn : n ≤ 3072) (hr : ∀ j, i32 (S.2 j)) : WP S 64 227 0 (iniL 4 [.inr (.inr (.inr ()))]) [] (0, 0) ([], deng []) (den []) (fun r _ _ => r = I 1) :=
  law_pre (law_loop HPs hS hn hr (n + 7) 0 (den HRb) (by omega) (by omega) (by omega) R_b (SHb, deng GRb) wOK_b)
