/-! look on a new object -/
theorem ok_nm {α β : Type} (e : α) (k : α → Option β) : z_nm e k = k e := rfl
theorem ok_bs {α β : Type} (e : α) (k : α → Option β) : (some e).bind k = k e := rfl
theorem z_lo_2000 {α β : Type} (F : (α → Option β) → α → Option β) (a : α) : z_lo F 2000 a = F (z_lo F 1999) a := rfl
def z_more (how : Int32) : Int64 := if how = 1 then 2 else if how = 2 then 16 else 0
theorem p_Pa_refused0 (v : Int64) (how : Int32) {q : z_Sg} (hu : z_gI q 2 = 0) : f_Pa_refused v how q = some (-2 - v - z_more how - 0) := by
  unfold f_Pa_refused k_Pa_refused_23 k_Pa_refused_50 z_more
  rw [if_pos hu, if_pos hu, if_pos hu]
  by_cases h1 : how = 1
  · rw [if_pos h1, if_pos h1]
  · rw [if_neg h1, if_neg h1]
    by_cases h2 : how = 2
    · rw [if_pos h2, if_pos h2]
    · rw [if_neg h2, if_neg h2]
theorem z_f511 {n : Nat} (hn : n < 2 ^ 64) (k : Nat) (hk : k < 64) : (z_lushr (lN n) (nI k)) &&& 511 = lN (n / 2 ^ k % 512) := by
  rw [z_lushr_N hn hk]
  exact wb_mask (k := 9) (Nat.lt_of_le_of_lt (Nat.div_le_self _ _) hn) (by decide)
theorem p_86 (ih : Int64 × Int32 × Int64 × Int64 × Int64 × Int64 × Int32 → Option Int64) (x1 : Int64) (how : Int32) (x6 x8 x10 : Int64) (x12 : Int32) {q : z_Sg} (hu : z_gI q 2 = 0) : k_Pa_locate_86 ih x1 how x6 x8 x10 x12 0 q = some (-2 - z_more how) := by
  unfold k_Pa_locate_86
  dsimp only [z_nm]
  rw [if_pos (by decide), p_Pa_refused0 0 how hu]
  refine congrArg some ?_
  unfold z_more
  split
  · decide
  · split <;> decide
theorem z_at8 {n : Nat} (hn : n < 2 ^ 64) : ∃ k, k < 512 ∧ (0 : Int64) + z_lshl (z_lushr (lN n) 39 &&& 511) 3 = lN (k * 8) := by
  refine ⟨n / 2 ^ 39 % 512, Nat.mod_lt _ (by decide), ?_⟩
  rw [show (39 : Int32) = nI 39 from rfl, z_f511 hn 39 (by decide), show (3 : Int32) = nI 3 from rfl, z_lshl_N _ (by decide), Int64.zero_add]
theorem p_41 (ih : Int64 × Int32 × Int64 × Int64 × Int64 × Int64 × Int32 → Option Int64) {n : Nat} (hn : n < 2 ^ 64) (how : Int32) (x6 x8 x10 : Int64) : kb_Pa_locate_41 ih (lN n) how 0 x6 x8 x10 39 z_0K = some (-2 - z_more how) := by
  unfold kb_Pa_locate_41
  rw [if_neg (by decide)]
  dsimp only [z_nm]
  obtain ⟨k, hk, e⟩ := z_at8 hn
  rw [e]
  have h1 : ¬ (32768 : Int64) ≤ lN (k * 8) := fun h => by
    rw [show (32768 : Int64) = lN 32768 from rfl, pk_lLE (by decide) (by omega)] at h
    omega
  have e2 : (z_lushr (lN (k * 8)) 3).toInt32 = nI k := by
    rw [show (3 : Int32) = nI 3 from rfl, z_lushr_N (by omega) (by decide), lN_i]
    congr 1
    omega
  rw [if_neg h1, e2, if_neg (vp_in_nI (by omega) (by decide))]
  exact p_86 ih _ how _ _ _ _ rfl
theorem p_Pa_locate0 {n : Nat} (hn : n < 2 ^ 64) (how : Int32) : f_Pa_locate (lN n) how z_0K = some (if z_wI n = 0 then -2 - z_more how else -1) := by
  unfold f_Pa_locate
  rw [p_Pa_isWrong hn, ok_bs]
  by_cases hw : z_wI n = 0
  · rw [if_pos hw, if_pos hw, ok_nm, show (z_gL z_0K 1 &&& 4503599627366400) = 0 from by decide +kernel]
    unfold k_Pa_locate_41
    rw [z_lo_2000]
    exact p_41 (z_lo (fun ih41 a => kb_Pa_locate_41 ih41 a.1 a.2.1 a.2.2.1 a.2.2.2.1 a.2.2.2.2.1 a.2.2.2.2.2.1 a.2.2.2.2.2.2 z_0K) 1999) hn how _ _ _
  · rw [if_neg hw, if_neg hw]
theorem z_joined (x y : Int32) : ∃ n, n < 2 ^ 64 ∧ (z_lshl (x.toInt64) 32 ||| (y.toInt64 &&& 4294967295)) = lN n := wb_of _
theorem p_Mo_find0 (v : Int64) (how : Int32) : ∃ o, f_Mo_find v how z_0M = some o ∧ o.1 = -1 ∧ (z_gI o.2 1).toInt64 = z_more how := by
  have h34 : ∀ t0 t1 : Int32, ∃ o, k_Mo_find_34 v how t0 t1 z_0M = some o ∧ o.1 = -1 ∧ z_gI o.2 1 = t0 + t1 := by
    intro t0 t1
    unfold k_Mo_find_34 f_Mo_bits
    dsimp only [Option.bind, z_nm]
    show ∃ o, kb_Mo_find_71 (z_lo _ 1999) v how (t0 + t1) _ 1 1 1 3 0 0 z_0M = some o ∧ _
    unfold kb_Mo_find_71 f_Mo_bits
    rw [if_pos rfl]
    dsimp only [Option.bind]
    rw [p_Mo_eight0 _ (fun _ => rfl)]
    dsimp only
    rw [if_neg (by decide), if_pos (by decide)]
    unfold k_Mo_find_129 k_Mo_find_130
    dsimp only [z_nm]
    rw [if_pos (by decide)]
    exact ⟨_, rfl, rfl, rfl⟩
  have h10 : ∀ t0 : Int32, ∃ o, k_Mo_find_10 v how t0 z_0M = some o ∧ o.1 = -1 ∧ z_gI o.2 1 = t0 + 0 + (if how = 2 then 16 else 0) := by
    intro t0
    unfold k_Mo_find_10
    rw [if_pos (show z_gI z_0M 2 = 0 from rfl)]
    unfold k_Mo_find_22
    by_cases h2 : how = 2
    · rw [if_pos h2, if_pos h2]; exact h34 _ _
    · rw [if_neg h2, if_neg h2]; exact h34 _ _
  unfold f_Mo_find
  by_cases h1 : how = 1
  · rw [if_pos h1]
    obtain ⟨o, e1, e2, e3⟩ := h10 2
    refine ⟨o, e1, e2, ?_⟩
    rw [e3, h1]
    decide
  · rw [if_neg h1]
    obtain ⟨o, e1, e2, e3⟩ := h10 0
    refine ⟨o, e1, e2, ?_⟩
    rw [e3]
    unfold z_more
    rw [if_neg h1]
    by_cases h2 : how = 2
    · rw [if_pos h2, if_pos h2]; decide
    · rw [if_neg h2, if_neg h2]; decide
theorem p_look0 (x y z : Int32) : ∃ o o', f_Co_look x y z z_0K = some o ∧ f_Mo_look x y z z_0M = some o' ∧ o = o'.1 := by
  obtain ⟨n, hn, e⟩ := z_joined x y
  unfold f_Co_look f_Co_joined f_Mo_look f_Mo_join
  dsimp only [Option.bind]
  rw [e, p_Pa_locate0 hn, p_Mo_isWrong hn]
  dsimp only
  by_cases hw : z_wI n = 0
  · rw [if_pos hw, if_pos hw]
    have k41 : ∀ how : Int32, ∃ o', k_Mo_look_41 (lN n) how z_0M = some o' ∧ o'.1 = -2 - z_more how := by
      intro how
      unfold k_Mo_look_41 k_Mo_look_67
      obtain ⟨o, e1, e2, e3⟩ := p_Mo_find0 (lN n) how
      rw [e1]
      dsimp only [Option.bind]
      rw [if_neg (by rw [e2]; decide), e3]
      exact ⟨_, rfl, rfl⟩
    by_cases h1 : z = 1
    · rw [if_pos h1]
      obtain ⟨o', e1, e2⟩ := k41 1
      exact ⟨_, o', rfl, e1, by rw [e2, h1]⟩
    · rw [if_neg h1]
      by_cases h2 : z = 2
      · rw [if_pos h2]
        obtain ⟨o', e1, e2⟩ := k41 2
        exact ⟨_, o', rfl, e1, by rw [e2, h2]⟩
      · rw [if_neg h2]
        obtain ⟨o', e1, e2⟩ := k41 0
        refine ⟨_, o', rfl, e1, ?_⟩
        rw [e2]
        unfold z_more
        rw [if_neg h1, if_neg h2]
        rfl
  · rw [if_neg hw, if_neg hw]
    exact ⟨_, _, rfl, rfl, rfl⟩
/-! the law on scripts of at most four ints -/
theorem p_kb4 (xs : Nat → Int32) (ih : Int32 × (z_Sg × z_Sg) → Option Int32) (hih : ∀ q, ih (4, q) = some 1) : kb_law_18 xs 4 ih 0 (z_0K, z_0M) = some 1 := by
  have h331 : ∀ q : z_Sg × z_Sg, k_law_331 xs 4 ih 0 q = some 1 := fun q => hih q
  have b1 : ¬ z_bad ((0 : Int32) + 1) 4 := by decide
  have b2 : ¬ z_bad ((0 : Int32) + 2) 4 := by decide
  have b3 : ¬ z_bad ((0 : Int32) + 3) 4 := by decide
  unfold kb_law_18
  rw [if_neg (by decide), if_neg (by decide)]
  dsimp only
  generalize xs (0 : Int32).toNatClampNeg &&& 7 = k
  by_cases hk : k = 0
  · rw [if_pos hk, if_neg b1, if_neg b2, if_neg b3]
    obtain ⟨o, e1, e2⟩ := p_Co_store (xs ((0 : Int32) + 1).toNatClampNeg) (xs ((0 : Int32) + 2).toNatClampNeg) (xs ((0 : Int32) + 3).toNatClampNeg) z_0K
    obtain ⟨o', f1, f2⟩ := p_Mo_store (xs ((0 : Int32) + 1).toNatClampNeg) (xs ((0 : Int32) + 2).toNatClampNeg) (xs ((0 : Int32) + 3).toNatClampNeg) z_0M
    rw [e1]; dsimp only [Option.bind]
    rw [if_neg b1, if_neg b2, if_neg b3, f1]; dsimp only [Option.bind]
    rw [if_pos (by rw [e2, f2])]; exact h331 _
  rw [if_neg hk]
  by_cases hk : k = 1
  · rw [if_pos hk, if_neg b1, p_Co_stored0 _ (fun _ => rfl)]; dsimp only [Option.bind]
    unfold f_Mo_stored
    rw [if_neg b1, p_Mo_eight0 _ (fun _ => rfl)]; dsimp only [Option.bind]
    rw [if_pos rfl]; exact h331 _
  rw [if_neg hk]
  by_cases hk : k = 2
  · rw [if_pos hk, if_neg b1, if_neg b2, if_neg b3]
    obtain ⟨o, e1, e2⟩ := p_Co_set (xs ((0 : Int32) + 1).toNatClampNeg) (xs ((0 : Int32) + 2).toNatClampNeg) (xs ((0 : Int32) + 3).toNatClampNeg) z_0K
    obtain ⟨o', f1, f2⟩ := p_Mo_set (xs ((0 : Int32) + 1).toNatClampNeg) (xs ((0 : Int32) + 2).toNatClampNeg) (xs ((0 : Int32) + 3).toNatClampNeg) z_0M
    rw [e1]; dsimp only [Option.bind]
    rw [if_neg b1, if_neg b2, if_neg b3, f1]; dsimp only [Option.bind]
    rw [if_pos (by rw [e2, f2])]; exact h331 _
  rw [if_neg hk]
  by_cases hk : k = 3
  · rw [if_pos hk, if_neg b1, p_Co_get0]; dsimp only [Option.bind]
    rw [if_neg b1, p_Mo_get0]; dsimp only [Option.bind]
    rw [if_pos rfl]; exact h331 _
  rw [if_neg hk]
  by_cases hk : k = 4
  · have hlev : ∀ t : Int32, z_bo t → k_law_228 xs 4 ih 0 t (z_0K, z_0M) = some 1 := by
      intro t ht
      unfold k_law_228
      obtain ⟨o, e1⟩ := p_Co_level ht z_0K
      dsimp only
      rw [e1]; dsimp only [Option.bind]
      rw [if_neg b1]
      have h245 : ∀ t : Int32, z_bo t → k_law_245 xs 4 ih 0 t (o, z_0M) = some 1 := by
        intro t ht
        unfold k_law_245
        obtain ⟨o', f1⟩ := p_Mo_level ht z_0M
        dsimp only
        rw [f1]; exact h331 _
      split
      · exact h245 0 (Or.inl rfl)
      · exact h245 1 (Or.inr rfl)
    rw [if_pos hk, if_neg b1]
    split
    · exact hlev 0 (Or.inl rfl)
    · exact hlev 1 (Or.inr rfl)
  rw [if_neg hk]
  by_cases hk : k = 5
  · obtain ⟨t, e1⟩ := z_map1 p_Co_step0
    obtain ⟨t', f1⟩ := z_map1 p_Mo_step0
    rw [if_pos hk, e1]; dsimp only [Option.bind]
    rw [f1]; dsimp only [Option.bind]
    rw [if_pos rfl]; exact h331 _
  rw [if_neg hk]
  by_cases hk : k = 6
  · rw [if_pos hk, if_neg b1]
    obtain ⟨o, e1, e2⟩ := p_Co_run0 (xs ((0 : Int32) + 1).toNatClampNeg)
    obtain ⟨o', f1, f2⟩ := p_Mo_run0 (xs ((0 : Int32) + 1).toNatClampNeg)
    rw [e1]; dsimp only [Option.bind]
    rw [if_neg b1, f1]; dsimp only [Option.bind]
    rw [if_pos (by rw [e2, f2])]; exact h331 _
  rw [if_neg hk]
  by_cases hk : k = 7
  · rw [if_pos hk, if_neg b1, if_neg b2, if_neg b3]
    obtain ⟨o, o', e1, f1, e2⟩ := p_look0 (xs ((0 : Int32) + 1).toNatClampNeg) (xs ((0 : Int32) + 2).toNatClampNeg) (xs ((0 : Int32) + 3).toNatClampNeg)
    rw [e1]; dsimp only [Option.bind]
    rw [if_neg b1, if_neg b2, if_neg b3, f1]; dsimp only [Option.bind]
    rw [if_pos e2]; exact h331 _
  rw [if_neg hk]
  exact h331 _
theorem p_law4 {L : Nat} (xs : Nat → Int32) (hL : L ≤ 4) : k_law_18 xs L 0 (z_0K, z_0M) = some 1 := by
  unfold k_law_18
  by_cases h4 : L < 4
  · show kb_law_18 xs L (z_lo (fun ih18 a => kb_law_18 xs L ih18 a.1 a.2) 1999) 0 (z_0K, z_0M) = some 1
    generalize z_lo (fun ih18 a => kb_law_18 xs L ih18 a.1 a.2) 1999 = ih
    unfold kb_law_18
    rw [if_pos]
    have : L = 0 ∨ L = 1 ∨ L = 2 ∨ L = 3 := by omega
    rcases this with rfl | rfl | rfl | rfl <;> decide
  · have hL4 : L = 4 := by omega
    subst hL4
    refine p_kb4 xs (z_lo (fun ih18 a => kb_law_18 xs 4 ih18 a.1 a.2) 1999) (fun q => ?_)
    show kb_law_18 xs 4 (z_lo (fun ih18 a => kb_law_18 xs 4 ih18 a.1 a.2) 1998) 4 q = some 1
    generalize z_lo (fun ih18 a => kb_law_18 xs 4 ih18 a.1 a.2) 1998 = ih
    unfold kb_law_18
    rw [if_pos (by decide)]
