/-! the reference: store -/
theorem z_add8 {x : Int32} (h0 : ¬ x < 0) : (x.toInt64 + 8 ≤ 32768) ↔ x ≤ 32760 := by
  obtain ⟨n, hn, rfl⟩ := nI_of h0
  rw [nI_l hn, show (8 : Int64) = lN 8 from rfl, show (32768 : Int64) = lN 32768 from rfl, lN_add, pk_lLE (by omega) (by decide), show (32760 : Int32) = nI 32760 from rfl, nI_leI hn (by decide)]
  omega
theorem p_Mo_store (x y z : Int32) (q : z_Sg) : ∃ o, f_Mo_store x y z q = some o ∧ o.1 = if x < 0 ∨ 32760 < x then 0 else 1 := by
  unfold f_Mo_store
  by_cases h0 : x < 0
  · rw [if_pos h0]; exact ⟨_, rfl, by rw [if_pos (Or.inl h0)]⟩
  · rw [if_neg h0]
    by_cases h1 : x ≤ 32760
    · rw [if_pos ((z_add8 h0).mpr h1), if_neg (by rintro (h | h); exact h0 h; exact absurd h (Int32.not_lt.mpr h1))]
      obtain ⟨n, hn, rfl⟩ := nI_of h0
      have h1 : n ≤ 32760 := (nI_leI hn (by decide)).mp h1
      unfold k_Mo_store_22
      refine z_lo_ok (fun a : Int32 × Int32 × Int32 × Int32 × z_Sg => a.1 = nI n ∧ ∃ i : Nat, i ≤ 8 ∧ a.2.2.2.1 = nI i) (fun a => 8 - a.2.2.2.1.toNatClampNeg) (fun o : Int32 × z_Sg => o.1 = 1) ?_ 2000 (nI n, y, z, 0, q) ⟨rfl, 0, by omega, rfl⟩ (by omega)
      rintro ih ⟨a1, a2, a3, a4, a5⟩ ⟨en, i, hi, ei⟩ hih
      dsimp only at en ei hih ⊢
      subst ei
      subst en
      have key : ∀ t : Int32, i < 8 → ∃ b, k_Mo_store_48 ih (nI n) a2 a3 (nI i) (nI n + nI i) t a5 = some b ∧ b.1 = 1 := by
        intro t h8
        unfold k_Mo_store_48
        rw [if_neg (by rw [nI_add]; exact vp_in_nI (by omega) (by decide))]
        dsimp only [z_nm]
        refine hih _ ⟨rfl, i + 1, by omega, nI_1 i⟩ ?_
        rw [nI_1, z_clp (by omega), z_clp (by omega)]
        omega
      unfold kb_Mo_store_22
      by_cases h8 : 8 ≤ i
      · rw [if_pos ((z_i8 (by omega)).mpr h8)]; exact ⟨_, rfl, rfl⟩
      · rw [if_neg (fun h => h8 ((z_i8 (by omega)).mp h))]
        by_cases h4 : 4 ≤ i
        · rw [if_pos ((z_i4 (by omega)).mpr h4)]; exact key _ (by omega)
        · rw [if_neg (fun h => h4 ((z_i4 (by omega)).mp h))]; exact key _ (by omega)
    · rw [if_neg (fun h => h1 ((z_add8 h0).mp h)), if_pos (Or.inr (Int32.not_le.mp h1))]; exact ⟨_, rfl, rfl⟩
/-! stored: it always answers; 0 where memory is empty -/
def z_nulK (q : z_Sg) : Prop := ∀ j, z_gM q 1 j = 0
def z_nulM (q : z_Sg) : Prop := ∀ j, z_gN q 0 j = 0
theorem p_Pa_byteAt0 (x : Int64) {q : z_Sg} (h : z_nulK q) : f_Pa_byteAt x q = some 0 := by
  unfold f_Pa_byteAt
  by_cases h0 : x < 0
  · rw [if_pos h0]; rfl
  · rw [if_neg h0]
    by_cases h1 : x < 32768
    · obtain ⟨n, -, -, -, hb, -, -⟩ := z_ix h0 h1
      rw [if_pos h1]
      simp only [z_nm]
      rw [if_neg hb, h, z_lushr_0]
      rfl
    · rw [if_neg h1]; rfl
theorem p_Mo_byteAt0 (x : Int64) {q : z_Sg} (h : z_nulM q) : f_Mo_byteAt x q = some 0 := by
  unfold f_Mo_byteAt
  by_cases h0 : x < 0
  · rw [if_pos h0]; rfl
  · rw [if_neg h0]
    by_cases h1 : x < 32768
    · obtain ⟨n, -, -, -, -, -, hb⟩ := z_ix h0 h1
      rw [if_pos h1, if_neg hb, h]
      rfl
    · rw [if_neg h1]; rfl
theorem z_or0 : ((0 : Int64) ||| 0) = 0 := rfl
theorem p_Co_stored0 (x : Int32) {q : z_Sg} (h : z_nulK q) : f_Co_stored x q = some 0 := by
  have key : ∃ b, f_Co_stored x q = some b ∧ b = 0 := by
    unfold f_Co_stored k_Co_stored_5
    refine z_lo_ok (fun a : Int32 × Int64 × Int32 => a.2.1 = 0 ∧ ∃ i : Nat, i ≤ 8 ∧ a.2.2 = nI i) (fun a => 8 - a.2.2.toNatClampNeg) (fun o : Int64 => o = 0) ?_ 2000 (x, 0, 0) ⟨rfl, 0, by omega, rfl⟩ (by omega)
    rintro ih ⟨a1, a2, a3⟩ ⟨e2, i, hi, ei⟩ hih
    dsimp only at e2 ei hih ⊢
    subst ei
    subst e2
    unfold kb_Co_stored_5
    by_cases h8 : 8 ≤ i
    · rw [if_pos ((z_i8 (by omega)).mpr h8)]; exact ⟨_, rfl, rfl⟩
    · rw [if_neg (fun h => h8 ((z_i8 (by omega)).mp h)), p_Pa_byteAt0 _ h]
      dsimp only [Option.bind, z_nm]
      rw [show ((0 : Int32).toInt64) = 0 from rfl, z_lshl_0, z_or0]
      refine hih _ ⟨rfl, i + 1, by omega, nI_1 i⟩ ?_
      rw [nI_1, z_clp (by omega), z_clp (by omega)]
      omega
  obtain ⟨b, h1, rfl⟩ := key
  exact h1
theorem p_Mo_eight0 (x : Int64) {q : z_Sg} (h : z_nulM q) : f_Mo_eight x q = some 0 := by
  have key : ∃ b, f_Mo_eight x q = some b ∧ b = 0 := by
    unfold f_Mo_eight k_Mo_eight_5
    refine z_lo_ok (fun a : Int64 × Int64 × Int32 => a.2.1 = 0 ∧ ∃ i : Nat, i ≤ 8 ∧ a.2.2 = nI i) (fun a => 8 - a.2.2.toNatClampNeg) (fun o : Int64 => o = 0) ?_ 2000 (x, 0, 0) ⟨rfl, 0, by omega, rfl⟩ (by omega)
    rintro ih ⟨a1, a2, a3⟩ ⟨e2, i, hi, ei⟩ hih
    dsimp only at e2 ei hih ⊢
    subst ei
    subst e2
    unfold kb_Mo_eight_5
    by_cases h8 : 8 ≤ i
    · rw [if_pos ((z_i8 (by omega)).mpr h8)]; exact ⟨_, rfl, rfl⟩
    · rw [if_neg (fun h => h8 ((z_i8 (by omega)).mp h)), p_Mo_byteAt0 _ h]
      dsimp only [Option.bind, z_nm]
      rw [show ((0 : Int32).toInt64) = 0 from rfl, z_lshl_0, z_or0]
      refine hih _ ⟨rfl, i + 1, by omega, nI_1 i⟩ ?_
      rw [nI_1, z_clp (by omega), z_clp (by omega)]
      omega
  obtain ⟨b, h1, rfl⟩ := key
  exact h1
/-! set -/
theorem z_cmp (x : Int32) : x < 0 ∨ ∃ n : Nat, n < 2 ^ 31 ∧ x = nI n := by
  by_cases h : x < 0
  · exact Or.inl h
  · exact Or.inr (nI_of h)
theorem p_Co_set (x y z : Int32) (q : z_Sg) : ∃ o, f_Co_set x y z q = some o ∧ o.1 = if x < 0 ∨ 21 < x then 0 else 1 := by
  unfold f_Co_set f_Co_joined
  dsimp only [Option.bind]
  have k30 : ∀ v : Int64, (x < 0 ∨ (16 : Int32) ≤ x) → ∃ o, k_Co_set_30 x z v q = some o ∧ o.1 = if x < 0 ∨ 21 < x then 0 else 1 := by
    intro v hx
    unfold k_Co_set_30
    simp only [z_nm]
    by_cases e : x = 16
    · subst e; exact ⟨_, rfl, rfl⟩
    rw [if_neg e]
    by_cases e : x = 17
    · subst e; exact ⟨_, rfl, rfl⟩
    rw [if_neg e]
    by_cases e : x = 18
    · subst e; exact ⟨_, rfl, rfl⟩
    rw [if_neg e]
    by_cases e : x = 19
    · subst e; exact ⟨_, rfl, rfl⟩
    rw [if_neg e]
    by_cases e : x = 20
    · subst e; exact ⟨_, rfl, rfl⟩
    rw [if_neg e]
    by_cases e : x = 21
    · subst e; exact ⟨_, rfl, rfl⟩
    rw [if_neg e]
    refine ⟨_, rfl, ?_⟩
    rw [if_pos]
    rcases hx with hx | hx
    · exact Or.inl hx
    · refine Or.inr (Int32.not_le.mp fun hle => ?_)
      have h1 : (16 : Int32).toInt ≤ x.toInt := Int32.le_iff_toInt_le.mp hx
      have h2 : x.toInt ≤ (21 : Int32).toInt := Int32.le_iff_toInt_le.mp hle
      have ne : ∀ k : Int32, ¬ x = k → ¬ x.toInt = k.toInt := fun k hk h => hk (Int32.toInt_inj.mp h)
      have n1 := ne 16 (by assumption); have n2 := ne 17 (by assumption); have n3 := ne 18 (by assumption); have n4 := ne 19 (by assumption); have n5 := ne 20 (by assumption); have n6 := ne 21 (by assumption)
      rw [show (16 : Int32).toInt = 16 from rfl] at h1 n1
      rw [show (21 : Int32).toInt = 21 from rfl] at h2 n6
      rw [show (17 : Int32).toInt = 17 from rfl] at n2
      rw [show (18 : Int32).toInt = 18 from rfl] at n3
      rw [show (19 : Int32).toInt = 19 from rfl] at n4
      rw [show (20 : Int32).toInt = 20 from rfl] at n5
      omega
  by_cases h0 : x < 0
  · rw [if_pos h0]; exact k30 _ (Or.inl h0)
  · rw [if_neg h0]
    by_cases h1 : (16 : Int32) ≤ x
    · rw [if_pos h1]; exact k30 _ (Or.inr h1)
    · rw [if_neg h1]
      obtain ⟨n, hn, rfl⟩ := nI_of h0
      have h2 : n < 16 := Nat.not_le.mp (fun h => h1 ((nI_leI (by decide) hn).mpr h))
      rw [if_neg (vp_in_nI h2 (by decide))]
      refine ⟨_, rfl, ?_⟩
      rw [if_neg]
      rintro (h | h)
      · exact h0 h
      · have := (nI_ltI (a := 21) (by decide) hn).mp h
        omega
