/-! what the run on rows comes to, the pure machine comes to -/
set_option maxHeartbeats 8000000 in
theorem exr_ok : ∀ (n d μ pc : Nat) (L : LSt) (st : List PV) (k : Nat × Nat) (sh : SHp) (gr : GW) (hr : RW) (r : PV) (sh' : SHp) (gr' : GW) (hr' : RW), exr n d μ pc L st k sh gr hr = some (r, sh', gr', hr') → ∀ (S : SC) (Q : KK), Q r (sh', deng gr') (den hr') → WP S d μ pc L st k (sh, deng gr) (den hr) Q := by
  intro n
  induction n with
  | zero => intro d μ pc L st k sh gr hr r sh' gr' hr' h; cases h
  | succ n ih =>
    intro d μ pc L st k sh gr hr r sh' gr' hr' h S Q hQ
    refine WP_in ?_
    unfold exr at h
    unfold STF
    split at h
    · cases h
    rename_i i hc
    rw [hc]
    dsimp only
    split at h
    · split at h
      · rename_i h1; exact ⟨h1, ih _ _ _ _ _ _ _ _ _ _ _ _ _ h S Q hQ⟩
      · cases h
    · split at h
      · rename_i h1; exact ⟨h1, ih _ _ _ _ _ _ _ _ _ _ _ _ _ h S Q hQ⟩
      · cases h
    · split at h
      · rename_i h1; exact ⟨h1, ih _ _ _ _ _ _ _ _ _ _ _ _ _ h S Q hQ⟩
      · cases h
    · split at h
      · rename_i h1
        unfold stp; dsimp only; unfold ldA; rw [h1]
        exact ih _ _ _ _ _ _ _ _ _ _ _ _ _ h S Q hQ
      · cases h
    · split at h
      · rename_i h1
        unfold stp; dsimp only; unfold ldI; rw [h1]
        exact ih _ _ _ _ _ _ _ _ _ _ _ _ _ h S Q hQ
      · cases h
    · split at h
      · split at h
        · rename_i h1; exact ⟨h1, ih _ _ _ _ _ _ _ _ _ _ _ _ _ h S Q hQ⟩
        · cases h
      · cases h
    · split at h
      · rename_i h1
        split at h
        · rename_i h2
          unfold stp; dsimp only; unfold ldI; rw [h1]
          exact ⟨h2.1, h2.2, ih _ _ _ _ _ _ _ _ _ _ _ _ _ h S Q hQ⟩
        · cases h
      · cases h
    · split at h
      · exact ⟨rfl, ih _ _ _ _ _ _ _ _ _ _ _ _ _ h S Q hQ⟩
      · cases h
    · split at h
      · exact ih _ _ _ _ _ _ _ _ _ _ _ _ _ h S Q hQ
      · cases h
    · split at h
      · rename_i h1; exact ⟨h1, ih _ _ _ _ _ _ _ _ _ _ _ _ _ h S Q hQ⟩
      · cases h
    · split at h
      · split at h
        · rename_i h1
          split at h
          · rename_i h2
            exact ⟨h1, fun _ => ih _ _ _ _ _ _ _ _ _ _ _ _ _ h S Q hQ, fun q => absurd h2 q⟩
          · rename_i h2
            exact ⟨h1, fun q => absurd q h2, fun _ => ih _ _ _ _ _ _ _ _ _ _ _ _ _ h S Q hQ⟩
        · cases h
      · cases h
    · split at h
      · split at h
        · rename_i ci kk hf
          split at h
          · rename_i h1
            split at h
            · cases h
            · rename_i q hq
              unfold stp; dsimp only; unfold gtF; rw [hf]
              refine ⟨h1.1, ?_⟩
              rw [h1.2]; dsimp only; rw [hq]
              exact ih _ _ _ _ _ _ _ _ _ _ _ _ _ h S Q hQ
          · cases h
        · cases h
      · cases h
    · split at h
      · split at h
        · rename_i ci kk hf
          split at h
          · rename_i h1
            unfold stp; dsimp only; unfold ptF; rw [hf]
            refine ⟨h1.1.1, ?_⟩
            rw [h1.2.1]
            refine ⟨h1.1.2, ?_⟩
            rw [den_set h1.2.2]
            exact ih _ _ _ _ _ _ _ _ _ _ _ _ _ h S Q hQ
          · cases h
        · cases h
      · split at h
        · rename_i ci kk hf
          split at h
          · rename_i h1
            unfold stp; dsimp only; unfold ptF; rw [hf]
            refine ⟨h1.1.1, ?_⟩
            rw [h1.2.1]
            refine ⟨h1.1.2, ?_⟩
            rw [deng_set h1.2.2]
            exact ih _ _ _ _ _ _ _ _ _ _ _ _ _ h S Q hQ
          · cases h
        · cases h
      · cases h
    · split at h
      · split at h
        · rename_i hs
          split at h
          · rename_i h1
            unfold stp; dsimp only; unfold i2; dsimp only; unfold r1; dsimp only; unfold alen; dsimp only; rw [hs]
            refine ⟨rfl, h1.1, ?_⟩
            rw [den_set h1.2]
            exact ih _ _ _ _ _ _ _ _ _ _ _ _ _ h S Q hQ
          · cases h
        · cases h
      · cases h
    · split at h
      · split at h
        · rename_i hs
          split at h
          · rename_i h1
            unfold stp; dsimp only; unfold aln; dsimp only; rw [hs]
            exact ⟨⟨by decide, h1⟩, ih _ _ _ _ _ _ _ _ _ _ _ _ _ h S Q hQ⟩
          · cases h
        · cases h
      · cases h
    · split at h
      · split at h
        · rename_i h1
          obtain ⟨⟨h1, h2⟩, h3, h4⟩ := h1
          have e1 : clg (deng gr) sh.length = deng (gr ++ [[]]) := by rw [← h3]; exact deng_app (n := 0)
          have e2 : ∀ m, clr (den hr) sh.length = den (hr ++ [List.replicate m 0]) := fun m => by rw [← h4]; exact den_app
          split at h
          · refine ⟨h1, h2, ?_⟩
            dsimp only; rw [e1, e2]
            exact ih _ _ _ _ _ _ _ _ _ _ _ _ _ h S Q hQ
          · refine ⟨h1, h2, ?_⟩
            dsimp only; rw [e1, e2]
            exact ih _ _ _ _ _ _ _ _ _ _ _ _ _ h S Q hQ
          · refine ⟨h1, h2, ?_⟩
            dsimp only; rw [e1, e2]
            exact ih _ _ _ _ _ _ _ _ _ _ _ _ _ h S Q hQ
          · cases h
        · cases h
      · cases h
    · split at h
      · rename_i ci hn
        split at h
        · rename_i h1
          obtain ⟨h1, h3, h4⟩ := h1
          unfold stp; dsimp only; unfold mkO; rw [hn]
          refine ⟨h1, ?_⟩
          dsimp only
          rw [show clg (deng gr) sh.length = deng (gr ++ [List.replicate (clT ci).2.2 0]) by rw [← h3]; exact deng_app, show clr (den hr) sh.length = den (hr ++ [List.replicate (clT ci).2.2 0]) by rw [← h4]; exact den_app]
          exact ih _ _ _ _ _ _ _ _ _ _ _ _ _ h S Q hQ
        · cases h
      · cases h
    · split at h
      · rename_i hm
        split at h
        · split at h
          · rename_i h1
            unfold stp; dsimp only; rw [hm]
            exact ⟨h1, ih _ _ _ _ _ _ _ _ _ _ _ _ _ h S Q hQ⟩
          · cases h
        · cases h
      · rename_i ν hm
        split at h
        · rename_i p rest hd
          split at h
          · rename_i h1
            obtain ⟨⟨h1, h2⟩, h3, h4⟩ := h1
            split at h
            · cases h
            · rename_i d
              split at h
              · rename_i r2 sh2 gr2 hr2 he
                unfold stp; dsimp only; rw [hm]; dsimp only
                refine ⟨h1, ?_⟩
                unfold ivR; rw [hd]
                exact ⟨h2, h3, h4, ih _ _ _ _ _ _ _ _ _ _ _ _ _ he S0 _ (ih _ _ _ _ _ _ _ _ _ _ _ _ _ h S Q hQ)⟩
              · cases h
          · cases h
        · cases h
      · cases h
    · split at h
      · rename_i ν hm
        split at h
        · rename_i h1
          split at h
          · cases h
          · rename_i d
            split at h
            · rename_i r2 sh2 gr2 hr2 he
              unfold stp; dsimp only; rw [hm]; dsimp only
              exact ⟨h1.1, h1.2, ih _ _ _ _ _ _ _ _ _ _ _ _ _ he S0 _ (ih _ _ _ _ _ _ _ _ _ _ _ _ _ h S Q hQ)⟩
            · cases h
        · cases h
      · cases h
    · split at h
      · split at h
        · rename_i h1
          cases h
          exact ⟨h1, hQ⟩
        · cases h
      · cases h
    · cases h
