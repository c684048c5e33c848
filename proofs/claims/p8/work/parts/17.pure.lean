/-! pure rows: loops, numbers -/
theorem z_lo_ok {α β : Type} {F : (α → Option β) → α → Option β} (I : α → Prop) (μ : α → Nat) (post : β → Prop)
    (h : ∀ (ih : α → Option β) (a : α), I a → (∀ a', I a' → μ a' < μ a → ∃ b, ih a' = some b ∧ post b) → ∃ b, F ih a = some b ∧ post b) :
    ∀ (n : Nat) (a : α), I a → μ a < n → ∃ b, z_lo F n a = some b ∧ post b := by
  intro n
  induction n with
  | zero => intro a _ h2; omega
  | succ n ih =>
    intro a ha hn
    exact h (z_lo F n) a ha (fun a' h1 h2 => ih a' h1 (by omega))
theorem z_lushr_N {n k : Nat} (hn : n < 2 ^ 64) (hk : k < 64) : z_lushr (lN n) (nI k) = lN (n / 2 ^ k) := wb_shr hn hk
theorem z_lshl_N (n : Nat) {k : Nat} (hk : k < 64) : z_lshl (lN n) (nI k) = lN (n * 2 ^ k) := wb_shl n hk
theorem z_lushr_0 (y : Int32) : z_lushr 0 y = 0 := by
  obtain ⟨n, hn, h⟩ : ∃ n : Nat, n < 64 ∧ (y.toInt64.toUInt64 &&& Int64.toUInt64 63) = UInt64.ofNat n := by
    refine ⟨(y.toInt64.toUInt64 &&& Int64.toUInt64 63).toNat, ?_, by simp⟩
    rw [UInt64.toNat_and]
    exact Nat.lt_of_le_of_lt Nat.and_le_right (by decide)
  unfold z_lushr
  rw [h, ← wb_cu n hn]
  have := wb_shr (n := 0) (k := n) (by decide) hn
  rw [Nat.zero_div] at this
  exact this
theorem z_lshl_0 (y : Int32) : z_lshl 0 y = 0 := by
  unfold z_lshl
  apply Int64.toBitVec_inj.mp
  rw [Int64.toBitVec_shiftLeft]
  simp
/-- a place of memory: its eighth is a place of the words -/
theorem z_ix {x : Int64} (h0 : ¬ x < 0) (h1 : x < 32768) : ∃ n : Nat, n < 32768 ∧ x = lN n ∧ (z_lushr x 3).toInt32 = nI (n / 8) ∧ ¬ z_bad ((z_lushr x 3).toInt32) 4096 ∧ x.toInt32 = nI n ∧ ¬ z_bad x.toInt32 32768 := by
  obtain ⟨n, hn, rfl⟩ := pk_lOf h0
  have h2 : n < 32768 := (pk_lLT hn (by decide)).mp h1
  have e : (z_lushr (lN n) 3).toInt32 = nI (n / 8) := by
    have := z_lushr_N (n := n) (k := 3) (by omega) (by decide)
    rw [show (3 : Int32) = nI 3 from rfl, this, lN_i]
  refine ⟨n, h2, rfl, e, ?_, lN_i n, ?_⟩
  · rw [e]; exact vp_in_nI (by omega) (by decide)
  · rw [lN_i]; exact vp_in_nI h2 (by decide)
/-! the class: store, stored -/
theorem p_putByte (x v : Int64) (q : z_Sg) : ∃ o, f_Pa_putByte x v q = some o := by
  unfold f_Pa_putByte
  by_cases h0 : x < 0
  · rw [if_pos h0]; exact ⟨_, rfl⟩
  · rw [if_neg h0]
    by_cases h1 : x < 32768
    · obtain ⟨n, -, -, -, hb, -, -⟩ := z_ix h0 h1
      rw [if_pos h1]
      simp only [z_nm]
      rw [if_neg hb, if_neg hb]
      exact ⟨_, rfl⟩
    · rw [if_neg h1]; exact ⟨_, rfl⟩
theorem z_i4 {i : Nat} (hi : i < 2 ^ 30) : ((4 : Int32) ≤ nI i ↔ 4 ≤ i) := nI_leI (by decide) (by omega)
theorem z_i7 {i : Nat} (hi : i < 2 ^ 30) : ((7 : Int32) ≤ nI i ↔ 7 ≤ i) := nI_leI (by decide) (by omega)
theorem z_i8 {i : Nat} (hi : i < 2 ^ 30) : ((8 : Int32) ≤ nI i ↔ 8 ≤ i) := nI_leI (by decide) (by omega)
theorem z_i16 {i : Nat} (hi : i < 2 ^ 30) : ((16 : Int32) ≤ nI i ↔ 16 ≤ i) := nI_leI (by decide) (by omega)
theorem z_i64 {i : Nat} (hi : i < 2 ^ 30) : ((64 : Int32) ≤ nI i ↔ 64 ≤ i) := nI_leI (by decide) (by omega)
theorem z_clp {i : Nat} (hi : i < 2 ^ 30) : (nI i).toNatClampNeg = i := nI_clamp (by omega)
theorem p_Co_store (x y z : Int32) (q : z_Sg) : ∃ o, f_Co_store x y z q = some o ∧ o.1 = if x < 0 ∨ 32760 < x then 0 else 1 := by
  unfold f_Co_store
  by_cases h0 : x < 0
  · rw [if_pos h0]; exact ⟨_, rfl, by rw [if_pos (Or.inl h0)]⟩
  · rw [if_neg h0]
    by_cases h1 : x ≤ 32760
    · rw [if_pos h1, if_neg (by rintro (h | h); exact h0 h; exact absurd h (Int32.not_lt.mpr h1))]
      unfold k_Co_store_16
      refine z_lo_ok (fun a : Int32 × Int32 × Int32 × Int32 × z_Sg => ∃ i : Nat, i ≤ 4 ∧ a.2.2.2.1 = nI i) (fun a => 4 - a.2.2.2.1.toNatClampNeg) (fun o : Int32 × z_Sg => o.1 = 1) ?_ 2000 (x, y, z, 0, q) ⟨0, by omega, rfl⟩ (by omega)
      rintro ih ⟨a1, a2, a3, a4, a5⟩ ⟨i, hi, ei⟩ hih
      dsimp only at ei hih ⊢
      subst ei
      unfold kb_Co_store_16
      by_cases h4 : 4 ≤ i
      · rw [if_pos ((z_i4 (by omega)).mpr h4)]; exact ⟨_, rfl, rfl⟩
      · rw [if_neg (fun h => h4 ((z_i4 (by omega)).mp h))]
        obtain ⟨o1, e1⟩ := p_putByte ((a1 + nI i).toInt64) ((z_iushr a2 (8 * nI i)).toInt64) a5
        obtain ⟨o2, e2⟩ := p_putByte ((a1 + 4 + nI i).toInt64) ((z_iushr a3 (8 * nI i)).toInt64) o1
        rw [e1]; dsimp only [Option.bind]; rw [e2]; dsimp only [Option.bind, z_nm]
        refine hih _ ⟨i + 1, by omega, nI_1 i⟩ ?_
        rw [nI_1, z_clp (by omega), z_clp (by omega)]
        omega
    · rw [if_neg h1, if_pos (Or.inr (Int32.not_le.mp h1))]; exact ⟨_, rfl, rfl⟩
