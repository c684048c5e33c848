/-! the reference: set -/
theorem z_b7 {k : Nat} (h : k < 7) : ¬ z_bad (nI k) 7 := vp_in_nI h (by decide)
theorem p_Mo_setFlags (v : Int64) (q : z_Sg) : ∃ o, f_Mo_setFlags v q = some o := by
  have h6 : ∀ t q, ∃ o, k_Mo_setFlags_145 6 t q = some o := fun t q => by unfold k_Mo_setFlags_145; rw [if_neg (show ¬ z_bad (6 : Int32) 7 by decide)]; exact ⟨_, rfl⟩
  have h5 : ∀ t q, ∃ o, k_Mo_setFlags_123 v 5 t q = some o := fun t q => by
    unfold k_Mo_setFlags_123; rw [if_neg (show ¬ z_bad (5 : Int32) 7 by decide)]; simp only [z_nm]; split <;> exact h6 _ _
  have h4 : ∀ t q, ∃ o, k_Mo_setFlags_102 v 4 t q = some o := fun t q => by
    unfold k_Mo_setFlags_102; rw [if_neg (show ¬ z_bad (4 : Int32) 7 by decide)]; simp only [z_nm]; split <;> exact h5 _ _
  have h3 : ∀ t q, ∃ o, k_Mo_setFlags_81 v 3 t q = some o := fun t q => by
    unfold k_Mo_setFlags_81; rw [if_neg (show ¬ z_bad (3 : Int32) 7 by decide)]; simp only [z_nm]; split <;> exact h4 _ _
  have h2 : ∀ t q, ∃ o, k_Mo_setFlags_60 v 2 t q = some o := fun t q => by
    unfold k_Mo_setFlags_60; rw [if_neg (show ¬ z_bad (2 : Int32) 7 by decide)]; simp only [z_nm]; split <;> exact h3 _ _
  have h1 : ∀ t q, ∃ o, k_Mo_setFlags_39 v 1 t q = some o := fun t q => by
    unfold k_Mo_setFlags_39; rw [if_neg (show ¬ z_bad (1 : Int32) 7 by decide)]; simp only [z_nm]; split <;> exact h2 _ _
  have h0 : ∀ t q, ∃ o, k_Mo_setFlags_18 v 0 t q = some o := fun t q => by
    unfold k_Mo_setFlags_18; rw [if_neg (show ¬ z_bad (0 : Int32) 7 by decide)]; simp only [z_nm]; split <;> exact h1 _ _
  unfold f_Mo_setFlags
  split <;> exact h0 _ _
theorem p_Mo_set (x y z : Int32) (q : z_Sg) : ∃ o, f_Mo_set x y z q = some o ∧ o.1 = if x < 0 ∨ 21 < x then 0 else 1 := by
  have g93 : ∀ v q, ∃ o, k_Mo_set_93 x v q = some o ∧ o.1 = 1 := fun v q => by
    unfold k_Mo_set_93; simp only [z_nm]; split <;> exact ⟨_, rfl, rfl⟩
  have g81 : ∀ v q, ∃ o, k_Mo_set_81 x v q = some o ∧ o.1 = 1 := fun v q => by
    unfold k_Mo_set_81
    split
    · obtain ⟨o, e⟩ := p_Mo_setFlags v q
      rw [e]; exact g93 _ _
    · exact g93 _ _
  have g69 : ∀ v q, ∃ o, k_Mo_set_69 x v q = some o ∧ o.1 = 1 := fun v q => by unfold k_Mo_set_69; simp only [z_nm]; split <;> exact g81 _ _
  have g57 : ∀ v q, ∃ o, k_Mo_set_57 x v q = some o ∧ o.1 = 1 := fun v q => by unfold k_Mo_set_57; simp only [z_nm]; split <;> exact g69 _ _
  have g45 : ∀ v q, ∃ o, k_Mo_set_45 x v q = some o ∧ o.1 = 1 := fun v q => by unfold k_Mo_set_45; simp only [z_nm]; split <;> exact g57 _ _
  have g33 : ∀ v q, ∃ o, k_Mo_set_33 x v q = some o ∧ o.1 = 1 := fun v q => by unfold k_Mo_set_33; simp only [z_nm]; split <;> exact g45 _ _
  unfold f_Mo_set f_Mo_join
  dsimp only [Option.bind]
  by_cases h0 : x < 0
  · rw [if_pos h0, if_pos (Or.inl h0)]; exact ⟨_, rfl, rfl⟩
  · rw [if_neg h0]
    by_cases h1 : x ≤ 21
    · rw [if_pos h1, if_neg (show ¬ (x < 0 ∨ 21 < x) by rintro (h | h); exact h0 h; exact absurd h (Int32.not_lt.mpr h1))]
      by_cases h2 : (16 : Int32) ≤ x
      · rw [if_pos h2]; exact g33 _ _
      · rw [if_neg h2]
        obtain ⟨n, hn, rfl⟩ := nI_of h0
        have h3 : n < 16 := Nat.not_le.mp (fun h => h2 ((nI_leI (by decide) hn).mpr h))
        rw [if_neg (vp_in_nI h3 (by decide))]
        exact g33 _ _
    · rw [if_neg h1, if_pos (Or.inr (Int32.not_le.mp h1))]; exact ⟨_, rfl, rfl⟩
