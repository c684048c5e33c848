def z_wr (n : Nat) : Prop := 2 ^ 47 ≤ n ∧ n < 2 ^ 64 - 2 ^ 47
theorem z_lshr47 (x : Int64) : (z_lshr x 47).toInt = x.toInt / 2 ^ 47 := by
  unfold z_lshr
  have e : (x >>> ((47 : Int32).toInt64 &&& 63)).toInt = x.toInt >>> 47 := by
    show (x.toBitVec.sshiftRight (((47 : Int32).toInt64 &&& 63).toBitVec.smod 64).toNat).toInt = _
    rw [show (((47 : Int32).toInt64 &&& 63).toBitVec.smod 64).toNat = 47 from by decide +kernel, BitVec.toInt_sshiftRight]
    rfl
  rw [e, Int.shiftRight_eq_div_pow]
  rfl
theorem z_toInt {n : Nat} (h : n < 2 ^ 64) : (lN n).toInt = if n < 2 ^ 63 then (n : Int) else (n : Int) - 2 ^ 64 := by
  show (BitVec.ofNat 64 n).toInt = _
  rw [BitVec.toInt_eq_toNat_cond, BitVec.toNat_ofNat, Nat.mod_eq_of_lt h]
  by_cases h2 : n < 2 ^ 63
  · rw [if_pos h2, if_pos (by omega)]
  · rw [if_neg h2, if_neg (by omega)]; rfl
theorem z_wrK {n : Nat} (h : n < 2 ^ 64) : (z_lshr (lN n) 47 = 0 ∨ z_lshr (lN n) 47 = -1) ↔ ¬ z_wr n := by
  have h1 := z_lshr47 (lN n)
  rw [z_toInt h] at h1
  have e0 : z_lshr (lN n) 47 = 0 ↔ (z_lshr (lN n) 47).toInt = 0 := ⟨fun e => by rw [e]; rfl, fun e => Int64.toInt_inj.mp (by rw [e]; rfl)⟩
  have e1 : z_lshr (lN n) 47 = -1 ↔ (z_lshr (lN n) 47).toInt = -1 := ⟨fun e => by rw [e]; rfl, fun e => Int64.toInt_inj.mp (by rw [e]; rfl)⟩
  rw [e0, e1, h1]
  unfold z_wr
  split <;> omega
noncomputable def z_wI (n : Nat) : Int32 := @ite _ (z_wr n) (Classical.propDecidable _) 1 0
theorem z_wI_pos {n : Nat} (h : z_wr n) : z_wI n = 1 := by unfold z_wI; rw [if_pos h]
theorem z_wI_neg {n : Nat} (h : ¬ z_wr n) : z_wI n = 0 := by unfold z_wI; rw [if_neg h]
theorem p_Pa_isWrong {n : Nat} (h : n < 2 ^ 64) (q : z_Sg) : f_Pa_isWrong (lN n) q = some (z_wI n) := by
  unfold f_Pa_isWrong k_Pa_isWrong_23 k_Pa_isWrong_24 z_gd
  simp only [z_nm]
  by_cases h0 : z_lshr (lN n) 47 = 0
  · rw [if_pos h0, z_wI_neg ((z_wrK h).mp (Or.inl h0))]; rfl
  · rw [if_neg h0]
    by_cases h1 : z_lshr (lN n) 47 = -1
    · rw [if_pos h1, z_wI_neg ((z_wrK h).mp (Or.inr h1))]; rfl
    · rw [if_neg h1]
      have : z_wr n := Classical.byContradiction fun hn => by rcases (z_wrK h).mpr hn with e | e; exact h0 e; exact h1 e
      rw [z_wI_pos this]; rfl
theorem z_bit {n k : Nat} (hn : n < 2 ^ 64) (hk : k < 64) : ((z_lushr (lN n) (nI k) &&& 1) = 1) ↔ n.testBit k = true := by
  rw [z_lushr_N hn hk, wb_a1 (Nat.lt_of_le_of_lt (Nat.div_le_self _ _) hn), show (1 : Int64) = lN 1 from rfl, pk_lEQ (by omega) (by decide), Nat.testBit_eq_decide_div_mod_eq]
  simp
theorem z_hi {n : Nat} (h : n < 2 ^ 64) (k : Nat) (hk : k < 17) : n.testBit (47 + k) = (n / 2 ^ 47).testBit k := by
  rw [Nat.testBit_div_two_pow]
  congr 1
  omega
theorem z_alike {n : Nat} (h : n < 2 ^ 64) : (∀ c, 48 ≤ c → c < 64 → n.testBit c = n.testBit 47) ↔ ¬ z_wr n := by
  have hN : n / 2 ^ 47 < 2 ^ 17 := by omega
  have bitN : ∀ k, k < 17 → n.testBit (47 + k) = (n / 2 ^ 47).testBit k := fun k hk => z_hi h k hk
  have key : (∀ k, k < 17 → (n / 2 ^ 47).testBit k = (n / 2 ^ 47).testBit 0) ↔ (n / 2 ^ 47 = 0 ∨ n / 2 ^ 47 = 2 ^ 17 - 1) := by
    generalize n / 2 ^ 47 = N at hN
    constructor
    · intro ha
      cases hb : N.testBit 0 with
      | false =>
        left
        apply Nat.eq_of_testBit_eq
        intro i
        by_cases hi : i < 17
        · rw [ha i hi, hb]; simp
        · rw [Nat.testBit_lt_two_pow (Nat.lt_of_lt_of_le hN (Nat.pow_le_pow_right (by decide) (by omega)))]; simp
      | true =>
        right
        apply Nat.eq_of_testBit_eq
        intro i
        rw [Nat.testBit_two_pow_sub_one]
        by_cases hi : i < 17
        · rw [ha i hi, hb]; simp [hi]
        · rw [Nat.testBit_lt_two_pow (Nat.lt_of_lt_of_le hN (Nat.pow_le_pow_right (by decide) (by omega)))]; simp [hi]
    · rintro (e | e) k hk
      · rw [e]; simp
      · rw [e, Nat.testBit_two_pow_sub_one, Nat.testBit_two_pow_sub_one]; simp [hk]
  have e1 : (∀ c, 48 ≤ c → c < 64 → n.testBit c = n.testBit 47) ↔ (∀ k, k < 17 → (n / 2 ^ 47).testBit k = (n / 2 ^ 47).testBit 0) := by
    constructor
    · intro ha k hk
      rw [← bitN k hk, ← bitN 0 (by decide)]
      by_cases h0 : k = 0
      · subst h0; rfl
      · exact ha (47 + k) (by omega) (by omega)
    · intro ha c h1 h2
      have := ha (c - 47) (by omega)
      rw [← bitN (c - 47) (by omega), ← bitN 0 (by decide)] at this
      rw [show 47 + (c - 47) = c by omega] at this
      exact this
  rw [e1, key]
  unfold z_wr
  omega
theorem p_Mo_isWrong {n : Nat} (h : n < 2 ^ 64) (q : z_Sg) : f_Mo_isWrong (lN n) q = some (z_wI n) := by
  have key : ∀ t : Int32, ((t = 1 ∧ n.testBit 47 = true) ∨ (t = 0 ∧ n.testBit 47 = false)) → ∃ b, k_Mo_isWrong_16 (lN n) t q = some b ∧ b = z_wI n := by
    intro t ht
    unfold k_Mo_isWrong_16 k_Mo_isWrong_23
    refine z_lo_ok (fun a : Int64 × Int32 × Int32 × Int32 => a.1 = lN n ∧ a.2.1 = t ∧ ∃ i : Nat, 48 ≤ i ∧ i ≤ 64 ∧ a.2.2.2 = nI i ∧ ((a.2.2.1 = 0 ∧ ∀ c, 48 ≤ c → c < i → n.testBit c = n.testBit 47) ∨ (a.2.2.1 = 1 ∧ ∃ c, 48 ≤ c ∧ c < i ∧ ¬ n.testBit c = n.testBit 47))) (fun a => 64 - a.2.2.2.toNatClampNeg) (fun o : Int32 => o = z_wI n) ?_ 2000 (lN n, t, 0, 48) ⟨rfl, rfl, 48, by omega, by omega, rfl, Or.inl ⟨rfl, fun c h1 h2 => by omega⟩⟩ (by omega)
    rintro ih ⟨a1, a2, a3, a4⟩ ⟨e1, e2, i, hi, hi2, ei, hc⟩ hih
    dsimp only at e1 e2 ei hc hih ⊢
    subst ei
    subst e1
    subst e2
    have go : ∀ v : Int32, i < 64 → ((v = 0 ∧ ∀ c, 48 ≤ c → c < i + 1 → n.testBit c = n.testBit 47) ∨ (v = 1 ∧ ∃ c, 48 ≤ c ∧ c < i + 1 ∧ ¬ n.testBit c = n.testBit 47)) → ∃ b, k_Mo_isWrong_59 ih (lN n) a2 (nI i) v q = some b ∧ b = z_wI n := by
      intro v h64 hv
      unfold k_Mo_isWrong_59
      dsimp only [z_nm]
      refine hih _ ⟨rfl, rfl, i + 1, by omega, by omega, nI_1 i, hv⟩ ?_
      rw [nI_1, z_clp (by omega), z_clp (by omega)]
      omega
    unfold kb_Mo_isWrong_23
    by_cases h64 : 64 ≤ i
    · rw [if_pos ((z_i64 (by omega)).mpr h64)]
      have hi64 : i = 64 := by omega
      subst hi64
      unfold z_gd
      rcases hc with ⟨hc, ha⟩ | ⟨hc, c, h1, h2, h3⟩
      · subst hc
        exact ⟨0, rfl, (z_wI_neg ((z_alike h).mp ha)).symm⟩
      · subst hc
        refine ⟨1, rfl, (z_wI_pos ?_).symm⟩
        exact Classical.byContradiction fun hn => h3 ((z_alike h).mpr hn c h1 h2)
    · rw [if_neg (fun h => h64 ((z_i64 (by omega)).mp h))]
      rcases hc with ⟨hc, ha⟩ | ⟨hc, c, h1, h2, h3⟩
      · rw [if_pos hc]
        have fin : ∀ v : Int32, ((v = 1 ∧ n.testBit i = true) ∨ (v = 0 ∧ n.testBit i = false)) → ∃ b, k_Mo_isWrong_50 ih (lN n) a2 (nI i) v q = some b ∧ b = z_wI n := by
          intro v hv
          unfold k_Mo_isWrong_50
          by_cases hvt : v = a2
          · rw [if_pos hvt]
            refine go 0 (by omega) (Or.inl ⟨rfl, fun c h1 h2 => ?_⟩)
            by_cases hci : c = i
            · subst hci
              subst hvt
              rcases hv with ⟨ev, hv⟩ | ⟨ev, hv⟩ <;> rcases ht with ⟨et, ht⟩ | ⟨et, ht⟩
              · rw [hv, ht]
              · rw [ev] at et; exact absurd et (by decide)
              · rw [ev] at et; exact absurd et (by decide)
              · rw [hv, ht]
            · exact ha c h1 (by omega)
          · rw [if_neg hvt]
            unfold k_Mo_isWrong_54
            refine go 1 (by omega) (Or.inr ⟨rfl, i, hi, by omega, fun he => hvt ?_⟩)
            rcases hv with ⟨ev, hv⟩ | ⟨ev, hv⟩ <;> rcases ht with ⟨et, ht⟩ | ⟨et, ht⟩
            · rw [ev, et]
            · rw [hv, ht] at he; cases he
            · rw [hv, ht] at he; cases he
            · rw [ev, et]
        by_cases hb : n.testBit i = true
        · rw [if_pos ((z_bit h (by omega)).mpr hb)]
          exact fin 1 (Or.inl ⟨rfl, hb⟩)
        · rw [if_neg (fun h' => hb ((z_bit h (by omega)).mp h'))]
          exact fin 0 (Or.inr ⟨rfl, by simpa using hb⟩)
      · rw [if_neg (by rw [hc]; decide)]
        unfold k_Mo_isWrong_54
        exact go 1 (by omega) (Or.inr ⟨rfl, c, h1, by omega, h3⟩)
  have key2 : ∀ t : Int32, ((t = 1 ∧ n.testBit 47 = true) ∨ (t = 0 ∧ n.testBit 47 = false)) → k_Mo_isWrong_16 (lN n) t q = some (z_wI n) := by
    intro t ht
    obtain ⟨b, h1, rfl⟩ := key t ht
    exact h1
  unfold f_Mo_isWrong
  have hb := z_bit (k := 47) h (by decide)
  rw [show (nI 47) = (47 : Int32) from rfl] at hb
  by_cases hb2 : n.testBit 47 = true
  · rw [if_pos (hb.mpr hb2)]; exact key2 1 (Or.inl ⟨rfl, hb2⟩)
  · rw [if_neg (fun h' => hb2 (hb.mp h'))]; exact key2 0 (Or.inr ⟨rfl, by simpa using hb2⟩)
