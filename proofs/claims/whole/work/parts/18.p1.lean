/-! pairs: class and model answer alike, and R holds behind them -/
set_option maxHeartbeats 4000000 in
theorem p_heat {d : Nat} {h : HP} {v1 v2 : Int} (hR : R h) : X (d + 6) 81 0 [some (P 0), some (I v1), some (I v2)] [] h (fun r h1 => X (d + 6) 140 0 [some (P 69), some (I v1), some (I v2), none] [] h1 (fun r' h2 => EQA r r' h2)) := by
  have e1 := hR.2.2.2.2.2.2.1.1
  have e2 := hR.2.2.2.2.2.2.2.2.2.1
  refine z81 ?_
  repeat' (first | intro _ | constructor)
  all_goals try omega
  all_goals (refine z140 ?_; try simp only [up_p, up_i, up_s, ne_eq, Nat.reduceEqDiff, not_false_eq_true]; repeat' (first | intro _ | constructor))
  all_goals try omega
  all_goals try exact EQA_ref hR _ _
  sorry
