theorem sx_N {a s : Nat} (h1 : 1 ≤ s) (h8 : s ≤ 8) (ha : a < 2 ^ (8 * s)) : sx (lN a) s = if 2 ^ (8 * s - 1) ≤ a then lN (a + (2 ^ 64 - 2 ^ (8 * s))) else lN a := by
  have hN : 2 ^ (8 * s) ≤ 2 ^ 64 := Nat.pow_le_pow_right (by decide) (by omega)
  have e2 : 2 ^ (8 * s) = 2 * 2 ^ (8 * s - 1) := by rw [← Nat.pow_succ']; congr 1; omega
  have top : tb (lN a) (8 * s - 1) = decide (2 ^ (8 * s - 1) ≤ a) := by
    have h := sx_nonneg_N h1 h8 ha
    rw [sx_neg _ h1 h8] at h
    unfold sF at h
    by_cases c : 2 ^ (8 * s - 1) ≤ a
    · rw [decide_eq_true c]
      cases ht : tb (lN a) (8 * s - 1) with
      | true => rfl
      | false => exact absurd c (h.mp ht)
    · rw [decide_eq_false c]; exact h.mpr c
  have hi : ∀ i, 8 * s ≤ i → i < 64 → tb (lN a) i = false := by
    intro i i1 i2
    rw [tb_N, decide_eq_true i2, Bool.true_and]
    exact Nat.testBit_lt_two_pow (Nat.lt_of_lt_of_le ha (Nat.pow_le_pow_right (by decide) i1))
  by_cases c : 2 ^ (8 * s - 1) ≤ a
  · rw [if_pos c]
    refine tb_ext (fun i hi64 => ?_)
    rw [tb_sx _ h1 h8 i hi64, top, decide_eq_true c]
    have e : a + (2 ^ 64 - 2 ^ (8 * s)) = 2 ^ (8 * s) * (2 ^ (64 - 8 * s) - 1) + a := by
      rw [Nat.mul_sub, ← Nat.pow_add, show 8 * s + (64 - 8 * s) = 64 by omega, Nat.mul_one]; omega
    have r : tb (lN (2 ^ (8 * s) * (2 ^ (64 - 8 * s) - 1) + a)) i = (if i < 8 * s then a.testBit i else (2 ^ (64 - 8 * s) - 1).testBit (i - 8 * s)) := by
      rw [tb_N, decide_eq_true hi64, Bool.true_and, Nat.testBit_two_pow_mul_add _ ha]
    rw [e, r]
    by_cases d : i < 8 * s
    · rw [if_pos d, if_pos d, tb_N, decide_eq_true hi64]; rfl
    · rw [if_neg d, if_neg d, Nat.testBit_two_pow_sub_one, decide_eq_true (by omega)]
  · rw [if_neg c]
    refine tb_ext (fun i hi64 => ?_)
    rw [tb_sx _ h1 h8 i hi64]
    by_cases d : i < 8 * s
    · rw [if_pos d]
    · rw [if_neg d, top, decide_eq_false c, hi i (by omega) hi64]
theorem dvG_t {sg : Bool} {u n : Nat} (h : dvG sg u n = true) : sg = true ∧ 2 ^ (8 * n - 1) ≤ u := by
  unfold dvG at h
  rw [Bool.and_eq_true] at h
  exact ⟨h.1, of_decide_eq_true h.2⟩
theorem dvD_lt {sg : Bool} {n u l : Nat} (hn : n = 1 ∨ n = 2 ∨ n = 4 ∨ n = 8) (hu : u < 2 ^ (8 * n)) (hl : l < 2 ^ (8 * n)) : dvD sg u l n < 2 ^ (8 * n) * 2 ^ (8 * n) ∧ u * 2 ^ (8 * n) + l < 2 ^ (8 * n) * 2 ^ (8 * n) ∧ (dvG sg u n = true → 0 < dvD sg u l n) ∧ 2 ^ (8 * n) * 2 ^ (8 * n) ≤ 2 ^ 128 := by
  have h : u * 2 ^ (8 * n) + l < 2 ^ (8 * n) * 2 ^ (8 * n) := by
    have : (u + 1) * 2 ^ (8 * n) ≤ 2 ^ (8 * n) * 2 ^ (8 * n) := Nat.mul_le_mul_right _ hu
    rw [Nat.add_mul, Nat.one_mul] at this
    omega
  refine ⟨?_, h, fun hg => ?_, ?_⟩
  · unfold dvD
    cases hg : dvG sg u n with
    | false => exact h
    | true =>
      have : 0 < u * 2 ^ (8 * n) := Nat.mul_pos (Nat.lt_of_lt_of_le (Nat.two_pow_pos _) (dvG_t hg).2) (Nat.two_pow_pos _)
      show 2 ^ (8 * n) * 2 ^ (8 * n) - (u * 2 ^ (8 * n) + l) < _
      omega
  · unfold dvD
    rw [hg, if_pos rfl]
    omega
  · rcases hn with rfl | rfl | rfl | rfl <;> decide
theorem M_div241 {m m2 : z_Sg} (hf : fr [8, 9] [] [] [] m m2) {n D M : Nat} (hn : n = 1 ∨ n = 2 ∨ n = 4 ∨ n = 8) (hM : 0 < M) (hM64 : M < 2 ^ 64) (hD : D < 2 ^ 128) (h8 : z_gL m2 8 = lN (D % 2 ^ 64)) (h9 : z_gL m2 9 = lN (D / 2 ^ 64)) (sg ng op : Bool) : (¬ (D / M < 2 ^ (8 * n) ∧ (sg = true → D / M ≤ 2 ^ (8 * n - 1) - 1 + (if op then 1 else 0))) → e_k_Mo_divide_241 (nI n) (b2i sg) (b2i ng) (b2i op) (lN M) m2 = some (.inl (0, z_gL m 5, z_gI m 0))) ∧ ((D / M < 2 ^ (8 * n) ∧ (sg = true → D / M ≤ 2 ^ (8 * n - 1) - 1 + (if op then 1 else 0))) → ∃ m1, e_k_Mo_divide_241 (nI n) (b2i sg) (b2i ng) (b2i op) (lN M) m2 = (k_Mo_divide_404 (nI n) (if op then -lN (D / M) else lN (D / M)) (if ng then -lN (D % M) else lN (D % M)) m1).bind (fun o => some (.inr o)) ∧ fr [8, 9] [] [] [] m m1) := by
  have h1 : 1 ≤ n := by omega
  have hh8 : n ≤ 8 := by omega
  have hN : 2 ^ (8 * n) ≤ 2 ^ 64 := Nat.pow_le_pow_right (by decide) (by omega)
  have e2 : 2 ^ (8 * n) = 2 * 2 ^ (8 * n - 1) := by rw [← Nat.pow_succ']; congr 1; omega
  have hpos : 0 < 2 ^ (8 * n - 1) := Nat.two_pow_pos _
  obtain ⟨q', k1, k2, k3, k4⟩ := M_quot hM hM64 (Nat.mod_lt D (show 0 < 2 ^ 64 by decide)) (show D / 2 ^ 64 < 2 ^ 64 by omega) h8 h9
  have eD : D % 2 ^ 64 + 2 ^ 64 * (D / 2 ^ 64) = D := by omega
  rw [eD] at k1 k2 k3
  have hfr : fr [8, 9] [] [] [] m q' := fr_t hf k4
  have ref : ∀ (l : z_Sg → Option (Sum z_Dd z_Sg)), z_eb (e_f_Mo_refuse 0 q') l = some (.inl (0, z_gL m 5, z_gI m 0)) := by
    intro l
    rw [r_refuse 0 (by decide), fr_L hfr 5 (by decide), fr_I hfr 0 (by decide)]
  unfold e_k_Mo_divide_241
  rw [k1, po_bs2]
  by_cases cQ : D / M < 2 ^ 64
  · rw [decide_eq_true cQ, if_neg (show ¬ b2i true = 0 by decide), M_lowest _ hh8, po_bs2]
    have em1 : (-1 : Int64) &&& mk n = mk n := tb_ext (fun i hi => by rw [tb_and, tb_m1, decide_eq_true hi]; rfl)
    rw [em1]
    rw [Nat.mod_eq_of_lt cQ] at k2
    have good : e_k_Mo_divide_356 (nI n) (b2i ng) (b2i op) 1 q' = (k_Mo_divide_404 (nI n) (if op then -lN (D / M) else lN (D / M)) (if ng then -lN (D % M) else lN (D % M)) q').bind (fun o => some (.inr o)) := by
      unfold e_k_Mo_divide_356 k_Mo_divide_368 k_Mo_divide_385
      rw [if_neg (by decide), k2, k3]
      cases op <;> cases ng <;> rfl
    have bad : e_k_Mo_divide_356 (nI n) (b2i ng) (b2i op) 0 q' = some (.inl (0, z_gL m 5, z_gI m 0)) := by
      unfold e_k_Mo_divide_356
      rw [if_pos rfl]
      exact ref _
    have hr1 : z_lushr (mk n) 1 = lN (2 ^ (8 * n - 1) - 1) := by
      rw [mk_N h1 hh8, show (1 : Int32) = nI 1 from rfl, z_lushr_N (by omega) (by decide)]
      exact congrArg lN (by omega)
    have hr0 : z_lushr (mk n) 0 = lN (2 ^ (8 * n) - 1) := by
      rw [mk_N h1 hh8, show (0 : Int32) = nI 0 from rfl, z_lushr_N (by omega) (by decide), Nat.pow_zero, Nat.div_one]
    unfold e_k_Mo_divide_272 e_k_Mo_divide_313 e_k_Mo_divide_351 e_k_Mo_divide_355
    cases sg with
    | false =>
      rw [if_pos (show b2i false = 0 from rfl), po_nm2, po_nm2, if_pos (show b2i false = 0 from rfl), hr0, k2, good, bad]
      by_cases c8 : n = 8
      · rw [if_pos (show nI n = 8 by rw [c8]; rfl)]
        refine ⟨fun h => absurd ⟨by rw [c8]; omega, fun z => by cases z⟩ h, fun _ => ⟨q', rfl, hfr⟩⟩
      · have n8 : ¬ nI n = (8 : Int32) := by rcases hn with rfl | rfl | rfl | rfl <;> first | decide | exact absurd rfl c8
        rw [if_neg n8]
        have hlt := ult_a (lN (2 ^ (8 * n) - 1)) (lN (D / M))
        rw [uN_N cQ, uN_N (n := 2 ^ (8 * n) - 1) (by omega)] at hlt
        by_cases c : 2 ^ (8 * n) - 1 < D / M
        · rw [if_pos (hlt.mpr c)]
          exact ⟨fun _ => rfl, fun h => by omega⟩
        · rw [if_neg (fun z => c (hlt.mp z))]
          exact ⟨fun h => absurd ⟨by omega, fun z => by cases z⟩ h, fun _ => ⟨q', rfl, hfr⟩⟩
    | true =>
      rw [if_neg (show ¬ b2i true = 0 by decide), po_nm2, po_nm2, if_neg (show ¬ b2i true = 0 by decide), hr1, k2, good, bad]
      have hle := ule_a (lN (D / M)) (lN (2 ^ (8 * n - 1) - 1))
      rw [uN_N cQ, uN_N (n := 2 ^ (8 * n - 1) - 1) (by omega)] at hle
      by_cases c : D / M ≤ 2 ^ (8 * n - 1) - 1
      · rw [if_pos (hle.mpr c)]
        exact ⟨fun h => absurd ⟨by omega, fun _ => by split <;> omega⟩ h, fun _ => ⟨q', rfl, hfr⟩⟩
      · rw [if_neg (fun z => c (hle.mp z))]
        cases op with
        | false =>
          rw [if_pos (show b2i false = 0 from rfl)]
          refine ⟨fun _ => rfl, fun h => ?_⟩
          have := h.2 rfl
          simp at this
          omega
        | true =>
          rw [if_neg (show ¬ b2i true = 0 by decide)]
          have h1' : lN (D / M) - lN (2 ^ (8 * n - 1) - 1) = 1 ↔ D / M = 2 ^ (8 * n - 1) := by
            rw [wN_sub (by omega), show (1 : Int64) = lN 1 from rfl]
            constructor
            · intro z
              have := congrArg uN z
              rw [uN_N (by omega), uN_N (by decide)] at this
              omega
            · intro z; rw [z]; exact congrArg lN (by omega)
          by_cases c2 : D / M = 2 ^ (8 * n - 1)
          · rw [if_pos (h1'.mpr c2)]
            exact ⟨fun h => absurd ⟨by omega, fun _ => by rw [if_pos rfl]; omega⟩ h, fun _ => ⟨q', rfl, hfr⟩⟩
          · rw [if_neg (fun z => c2 (h1'.mp z))]
            refine ⟨fun _ => rfl, fun h => ?_⟩
            have := h.2 rfl
            rw [if_pos rfl] at this
            omega
  · rw [decide_eq_false cQ, if_pos (show b2i false = 0 from rfl)]
    exact ⟨fun _ => ref _, fun h => by omega⟩
