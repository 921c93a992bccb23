section ZRUN
/-- nothing that stands is taken away -/
theorem zstep_T {I : Instr} {n : Nat} {r : zRes} {pc pc' : Nat} {L L' : zLs} {st st' : List zAV} {M M' : zM} (h : zstep I n r pc L st M = some (pc', L', st', M')) : M'.1 = M.1 ∨ ∃ d, M'.1 = M.1 ++ [d] := by
  unfold zstep at h
  cases I <;> dsimp only at h <;> (repeat' split at h) <;> first | (cases h; exact Or.inl rfl) | (cases h; exact Or.inr ⟨_, rfl⟩) | cases h
theorem zstep_mono {I : Instr} {n : Nat} {r : zRes} {pc pc' : Nat} {L L' : zLs} {st st' : List zAV} {M M' : zM} (h : zstep I n r pc L st M = some (pc', L', st', M')) : M.1.length ≤ M'.1.length ∧ zslots M.1 ≤ zslots M'.1 := by
  rcases zstep_T h with e | ⟨d, e⟩
  · rw [e]; exact ⟨Nat.le_refl _, Nat.le_refl _⟩
  · rw [e, List.length_append, zslots_app]; exact ⟨Nat.le_add_right _ _, Nat.le_add_right _ _⟩
theorem zrun_mono : ∀ (f y pc : Nat) (L : zLs) (st : List zAV) (M : zM) (v : Option zAV) (M' : zM), zrun f y pc L st M = some (v, M') → M.1.length ≤ M'.1.length ∧ zslots M.1 ≤ zslots M'.1 := by
  intro f
  induction f with
  | zero => intro y pc L st M v M' h; cases h
  | succ f ih =>
    intro y pc L st M v M' h
    unfold zrun at h
    split at h
    · cases h
    · split at h
      · split at h
        · rename_i hs
          obtain ⟨h1, h2⟩ := zstep_mono hs
          obtain ⟨h3, h4⟩ := ih _ _ _ _ _ _ _ h
          exact ⟨Nat.le_trans h1 h3, Nat.le_trans h2 h4⟩
        · cases h
      · split at h
        · cases h
          exact ⟨Nat.le_refl _, Nat.le_refl _⟩
        · cases h
      · split at h
        · split at h
          · rename_i hs
            obtain ⟨h1, h2⟩ := ih _ _ _ _ _ _ _ hs
            obtain ⟨h3, h4⟩ := ih _ _ _ _ _ _ _ h
            exact ⟨Nat.le_trans h1 h3, Nat.le_trans h2 h4⟩
          · cases h
        · cases h
/-- more fuel does no harm -/
theorem zrun_more : ∀ (f y pc : Nat) (L : zLs) (st : List zAV) (M : zM) (o : Option zAV × zM) (g : Nat), zrun f y pc L st M = some o → f ≤ g → zrun g y pc L st M = some o := by
  intro f
  induction f with
  | zero => intro y pc L st M o g h; cases h
  | succ f ih =>
    intro y pc L st M o g h hg
    obtain ⟨g', rfl⟩ : ∃ g', g = g' + 1 := ⟨g - 1, by omega⟩
    unfold zrun at h ⊢
    split at h
    · cases h
    · rename_i I n r hc
      try rw [hc]
      try dsimp only
      split at h
      · rename_i hk
        try rw [hk]
        try dsimp only
        split at h
        · rename_i hs
          try rw [hs]
          exact ih _ _ _ _ _ _ _ h (by omega)
        · cases h
      · rename_i hk
        try rw [hk]
        try dsimp only
        exact h
      · rename_i hk0 hk1
        split at h
        · rename_i hq
          split at h
          · rename_i v M1 hs
            try rw [if_pos hq]
            rw [ih _ _ _ _ _ _ _ hs (by omega : f ≤ g')]
            exact ih _ _ _ _ _ _ _ h (by omega)
          · cases h
        · cases h
end ZRUN
