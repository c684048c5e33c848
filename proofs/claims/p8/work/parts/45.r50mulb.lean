theorem mul_fin {k0 k m k2 m2 : z_Sg} (hE : EQ k m) (hn : EQn k2 m2) {s : Bool} (fk : fr [11, 12] [0] [0] [] k k2) (fm : fr [8, 9] [] [0] [] m m2) (hf : z_gI k2 0 = fwB s (tb (z_gL k 4) 2) (tb (z_gL k 4) 4) (tb (z_gL k 4) 6) (tb (z_gL k 4) 7) (fb (z_gN m 1) 5) s) : EQ k2 (mcF s m2) := by
  refine ⟨EQn_k hn (fr_0 (Ls := []) (Is := []) (Ms := []) (Ns := [])) (mc_fr s m2) (by decide) (by decide) (by decide) (by decide) (by decide) (by decide) (by decide), ?_, ?_, ?_⟩
  · rw [hf, fw_mc, fr_L fm 4 (by decide), fr_N fm 1 (by decide), EQn_L hE.1 (show 4 < 6 by decide)]
  · show z_gI k2 2 = z_gI m2 2
    rw [fr_I fk 2 (by decide), fr_I fm 2 (by decide)]; exact hE.2.2.1
  · show z_gL k2 10 = z_gL m2 7
    rw [fr_L fk 10 (by decide), fr_L fm 7 (by decide)]; exact hE.2.2.2
theorem mulOp_r {k0 k m : z_Sg} (hE : EQ k m) (sg : Bool) {n : Nat} (hn : n = 1 ∨ n = 2 ∨ n = 4 ∨ n = 8) (v : Int64) (hk13 : (z_gI k 13 = 5) ↔ sg = true) : z_r k0 ((k_On_executeByReg_117 (nI n) v k).bind S3) ((k_Mo_unary_159 v (nI n) (b2i sg) m).bind (fun o => some (.inr o))) FQQ := by
  have h1 : 1 ≤ n := by omega
  have h8 : n ≤ 8 := by omega
  have e8 := (z_64m h1 h8).2.1
  obtain ⟨a, g1, g2, g3⟩ := get_r (j := 0) hE.1 (by decide) h1 h8
  have g1' : f_Op_part 0 (nI n) k = some a := g1
  have g2' : f_Mo_get8 0 (nI n) m = some a := g2
  obtain ⟨k1, p1, p2, p3, p4, p5⟩ := K_mul hE.2.1 sg a v hn
  have eK : k_On_executeByReg_117 (nI n) v k = (f_On_putHalves (nI n) k1).bind (fun r16 => k_On_executeByReg_166 r16) := by
    unfold k_On_executeByReg_117 k_On_executeByReg_148
    rw [g1', po_bs2]
    cases sg with
    | true => rw [if_pos (hk13.mpr rfl)]; have p1' : f_Wi_multiply a v (nI n) 1 k = some k1 := p1; rw [p1', po_bs2]
    | false => rw [if_neg (fun x => by have := hk13.mp x; cases this)]; have p1' : f_Wi_multiply a v (nI n) 0 k = some k1 := p1; rw [p1', po_bs2]
  obtain ⟨m1, eM, q1, q2, q3⟩ : ∃ m1, k_Mo_unary_159 v (nI n) (b2i sg) m = (k_Mo_multiplyOperand_38 (nI n) (b2i sg) m1).bind (fun r14 => k_Mo_unary_190 r14) ∧ z_gL m1 8 = prP sg a v n ∧ (n = 8 → z_gL m1 9 = hiN sg a v n) ∧ fr [8, 9] [] [] [] m m1 := by
    unfold k_Mo_unary_159 f_Mo_multiplyOperand
    rw [g2', po_bs2]
    cases sg with
    | false =>
      obtain ⟨m1, y1, y2, y3, y4⟩ := M_mul a v m
      rw [if_pos (show b2i false = 0 from rfl), y1, po_bs2]
      exact ⟨m1, rfl, y2, fun h => by rw [y3, h]; rfl, y4⟩
    | true =>
      obtain ⟨m1, y1, y2, y3, y4⟩ := M_mulS (sx a n) (sx v n) m
      rw [if_neg (show ¬ b2i true = 0 by decide), M_extended _ h1 h8, po_bs2, M_extended _ h1 h8, po_bs2, y1, po_bs2]
      refine ⟨m1, rfl, y2, fun h => ?_, y4⟩
      rw [y3, h, sx_8, sx_8]; rfl
  rw [eK, eM]
  have e38 : k_Mo_multiplyOperand_38 (nI n) (b2i sg) m1 = k_Mo_multiplyOperand_74 (nI n) (b2i sg) (prP sg a v n &&& mk n) (hiN sg a v n) m1 := by
    unfold k_Mo_multiplyOperand_38
    rw [q1, M_lowest _ h8, po_bs2]
    by_cases c : n = 8
    · rw [if_pos (show nI n = 8 by rw [c]; rfl), q2 c]
    · rw [if_neg (fun x => c (by rcases hn with rfl | rfl | rfl | rfl <;> first | rfl | exact absurd x (by decide))), e8, M_lowest _ h8, po_bs2]
      congr 1
      unfold hiN
      rw [if_neg c]
  rw [e38]
  have hE1 : EQn k1 m1 := EQn_k hE.1 p2 q3 (by decide) (by decide) (by decide) (by decide) (by decide) (by decide) (by decide)
  have e121 : ∀ q, k_Mo_multiplyOperand_121 (nI n) (b2i sg) (prP sg a v n &&& mk n) (hiN sg a v n) q = some (mcF (spl sg (prP sg a v n &&& mk n) (hiN sg a v n) n) q) := by
    intro q
    have e149 : ∀ t, k_Mo_multiplyOperand_149 (hiN sg a v n) t q = some (mcF (decide (¬ hiN sg a v n = t)) q) := by
      intro t
      unfold k_Mo_multiplyOperand_149 k_Mo_multiplyOperand_158
      by_cases c : hiN sg a v n = t
      · rw [if_pos c, decide_eq_false (fun x => x c), show (0 : Int32) = b2i false from rfl, M_much, po_bs2]
      · rw [if_neg c, decide_eq_true c, show (1 : Int32) = b2i true from rfl, M_much, po_bs2]
    unfold k_Mo_multiplyOperand_121 k_Mo_multiplyOperand_148 spl
    cases sg with
    | false => rw [if_pos (show b2i false = 0 from rfl), e149]; simp
    | true =>
      rw [if_neg (show ¬ b2i true = 0 by decide), M_top _ h1 h8, po_bs2]
      cases hs : sF (prP true a v n &&& mk n) n with
      | false => rw [if_pos (show b2i false = 0 from rfl), e149]; simp
      | true =>
        rw [if_neg (show ¬ b2i true = 0 by decide), M_lowest _ h8, po_bs2, e149]
        have : (-1 : Int64) &&& mk n = mk n := tb_ext (fun i hi => by rw [tb_and, tb_m1, decide_eq_true hi]; rfl)
        rw [this]; simp
  unfold f_On_putHalves k_Mo_multiplyOperand_74 k_Mo_multiplyOperand_95 k_Mo_multiplyOperand_108
  have f5' : z_gI k1 0 = fwB (spl sg (prP sg a v n &&& mk n) (hiN sg a v n) n) (tb (z_gL k 4) 2) (tb (z_gL k 4) 4) (tb (z_gL k 4) 6) (tb (z_gL k 4) 7) (fb (z_gN m 1) 5) (spl sg (prP sg a v n &&& mk n) (hiN sg a v n) n) := p5
  by_cases c1 : n = 1
  · subst c1
    rw [if_pos (show nI 1 = 1 from rfl), if_pos (show nI 1 = 1 from rfl), p3, p4]
    obtain ⟨k2, m2, w1, w2, w3, w4, w5⟩ := put_r (j := 0) (n := 2) hE1 (by decide) (by decide) (by decide) (em_r 2 ((z_lshl (hiN sg a v 1) 8) ||| (prP sg a v 1 &&& mk 1)))
    have w1' : f_Op_putPart 0 ((z_lshl (hiN sg a v 1) 8) ||| (prP sg a v 1 &&& mk 1)) 2 k1 = some k2 := w1
    have w2' : f_Mo_put8 0 2 ((z_lshl (hiN sg a v 1) 8) ||| (prP sg a v 1 &&& mk 1)) m1 = some m2 := w2
    rw [w2', po_bs2, if_pos (show nI 1 ≤ 1 by decide), if_pos (show nI 1 ≤ 1 by decide), e121, w1']
    refine fin (mul_fin (k0 := k0) hE w3 (fr_t (fr_w p2 (by decide) (by decide) (by decide) (by decide)) (fr_w w4 (by decide) (by decide) (by decide) (by decide))) (fr_t (fr_w q3 (by decide) (by decide) (by decide) (by decide)) (fr_w w5 (by decide) (by decide) (by decide) (by decide))) ?_)
    rw [fr_I w4 0 (by decide)]; exact f5'
  · have n1 : ¬ nI n = 1 := fun x => c1 (by rcases hn with rfl | rfl | rfl | rfl <;> first | rfl | exact absurd x (by decide))
    have n1' : ¬ nI n ≤ 1 := by rcases hn with rfl | rfl | rfl | rfl <;> first | exact absurd rfl c1 | decide
    rw [if_neg n1, if_neg n1, if_neg n1', p3]
    obtain ⟨k2, m2, w1, w2, w3, w4, w5⟩ := put_r (j := 0) hE1 (by decide) h1 h8 (em_r n (prP sg a v n &&& mk n))
    have e12 : z_gL k2 12 = hiN sg a v n := by rw [fr_L w4 12 (by decide)]; exact p4
    obtain ⟨k3, m3, u1, u2, u3, u4, u5⟩ := put_r (j := 2) w3 (by decide) h1 h8 (em_r n (hiN sg a v n))
    have w1' : f_Op_putPart 0 (prP sg a v n &&& mk n) (nI n) k1 = some k2 := w1
    have w2' : f_Mo_put8 0 (nI n) (prP sg a v n &&& mk n) m1 = some m2 := w2
    have u1' : f_Op_putPart 2 (hiN sg a v n) (nI n) k2 = some k3 := u1
    have u2' : f_Mo_put8 2 (nI n) (hiN sg a v n) m2 = some m3 := u2
    rw [w2', po_bs2, if_neg n1', u2', po_bs2, e121, w1', po_bs2, e12, u1', po_bs2]
    refine fin (mul_fin (k0 := k0) hE u3 (fr_t (fr_t (fr_w p2 (by decide) (by decide) (by decide) (by decide)) (fr_w w4 (by decide) (by decide) (by decide) (by decide))) (fr_w u4 (by decide) (by decide) (by decide) (by decide))) (fr_t (fr_t (fr_w q3 (by decide) (by decide) (by decide) (by decide)) (fr_w w5 (by decide) (by decide) (by decide) (by decide))) (fr_w u5 (by decide) (by decide) (by decide) (by decide))) ?_)
    rw [fr_I u4 0 (by decide), fr_I w4 0 (by decide)]; exact f5'
theorem sgn_bits {p s : Nat} (hs : s < 64) (hp : p < 2 ^ 64) (h : p < 2 ^ s ∨ 2 ^ 64 - 2 ^ s ≤ p) : ∀ i, s ≤ i → i < 64 → tb (lN p) i = tb (lN p) 63 := by
  have small : ∀ x, x < 2 ^ s → ∀ i, s ≤ i → i < 64 → tb (lN x) i = false := by
    intro x hx i h1 h2
    rw [tb_N, decide_eq_true h2, Bool.true_and]
    exact Nat.testBit_lt_two_pow (Nat.lt_of_lt_of_le hx (Nat.pow_le_pow_right (by decide) h1))
  intro i h1 h2
  rcases h with h | h
  · rw [small p h i h1 h2, small p h 63 (by omega) (by decide)]
  · have hs2 : 2 ^ s ≤ 2 ^ 63 := Nat.pow_le_pow_right (by decide) (by omega)
    have e := not_N hp
    have t : ∀ j, s ≤ j → j < 64 → tb (lN p) j = true := by
      intro j j1 j2
      have := congrArg (fun z => tb z j) e
      rw [tb_xor, tb_m1, decide_eq_true j2, small (2 ^ 64 - 1 - p) (by omega) j j1 j2] at this
      simpa using this
    rw [t i h1 h2, t 63 (by omega) (by decide)]
theorem fit_hi {a t : Int64} {n : Nat} (hn : n = 2 ∨ n = 4) (ha : sx a n = a) (ht : sx t n = t) : sH a t = (if (a * t) < 0 then -1 else 0) ∧ ∀ i, 16 * n - 1 ≤ i → i < 64 → tb (a * t) i = tb (a * t) 63 := by
  have rng : ∀ x : Int64, sx x n = x → uN x < 2 ^ (8 * n - 1) ∨ 2 ^ 64 - 2 ^ (8 * n - 1) ≤ uN x := by
    intro x hx
    have hb : ∀ i, 8 * n - 1 ≤ i → i < 64 → tb x i = tb x (8 * n - 1) := by
      intro i h1 h2
      by_cases c : i < 8 * n
      · rw [show i = 8 * n - 1 by omega]
      · have := congrArg (fun z => tb z i) hx
        rw [tb_sx x (by omega) (by omega) i h2, if_neg c] at this
        exact this.symm
    have h64 := uN_lt x
    cases hs : tb x (8 * n - 1) with
    | false =>
      left
      refine Nat.lt_of_not_le (fun hle => ?_)
      obtain ⟨i, hi1, hi2⟩ : ∃ i, i ≥ 8 * n - 1 ∧ (uN x).testBit i = true := Nat.exists_ge_and_testBit_of_ge_two_pow hle
      have hi64 : i < 64 := by
        refine Nat.lt_of_not_le (fun h => ?_)
        have := Nat.testBit_lt_two_pow (x := uN x) (i := i) (Nat.lt_of_lt_of_le h64 (Nat.pow_le_pow_right (by decide) h))
        rw [this] at hi2; cases hi2
      have : tb x i = true := by rw [← uN_l x, tb_N, decide_eq_true hi64, Bool.true_and]; exact hi2
      rw [hb i hi1 hi64, hs] at this; cases this
    | true =>
      right
      have e := not_N h64
      rw [uN_l] at e
      have hlt : 2 ^ 64 - 1 - uN x < 2 ^ (8 * n - 1) := by
        refine Nat.lt_of_not_le (fun hle => ?_)
        obtain ⟨i, hi1, hi2⟩ : ∃ i, i ≥ 8 * n - 1 ∧ (2 ^ 64 - 1 - uN x).testBit i = true := Nat.exists_ge_and_testBit_of_ge_two_pow hle
        have hi64 : i < 64 := by
          refine Nat.lt_of_not_le (fun h => ?_)
          have := Nat.testBit_lt_two_pow (x := 2 ^ 64 - 1 - uN x) (i := i) (Nat.lt_of_lt_of_le (by omega) (Nat.pow_le_pow_right (by decide) h))
          rw [this] at hi2; cases hi2
        have h2 : tb (lN (2 ^ 64 - 1 - uN x)) i = true := by rw [tb_N, decide_eq_true hi64, Bool.true_and]; exact hi2
        rw [← e, tb_xor, tb_m1, decide_eq_true hi64, hb i hi1 hi64, hs] at h2
        cases h2
      omega
  have ra := rng a ha
  have rt := rng t ht
  obtain ⟨A, hA, rfl⟩ := wb_of a
  obtain ⟨T, hT, rfl⟩ := wb_of t
  rw [uN_N hA] at ra
  rw [uN_N hT] at rt
  have na := uN_neg (lN A)
  have nt := uN_neg (lN T)
  rw [uN_N hA] at na
  rw [uN_N hT] at nt
  have hb : 2 ^ (8 * n - 1) ≤ 2 ^ 31 := by rcases hn with rfl | rfl <;> decide
  have hb2 : 2 ^ (8 * n - 1) * 2 ^ (8 * n - 1) ≤ 2 ^ (16 * n - 2) := by rcases hn with rfl | rfl <;> decide
  have hb3 : 2 ^ (16 * n - 2) ≤ 2 ^ 62 := by rcases hn with rfl | rfl <;> decide
  have hb4 : 2 ^ (16 * n - 1) = 2 * 2 ^ (16 * n - 2) := by rcases hn with rfl | rfl <;> decide
  have hb5 : 1 ≤ 2 ^ (16 * n - 2) := Nat.two_pow_pos _
  have s63 : 16 * n - 1 < 64 := by omega
  unfold sH uH
  rw [wN_mul, uN_N hA, uN_N hT]
  have negP : ∀ x, x < 2 ^ 64 → ((lN x < 0) ↔ 2 ^ 63 ≤ x) := fun x hx => by have := uN_neg (lN x); rw [uN_N hx] at this; exact this
  rcases ra with ra | ra <;> rcases rt with rt | rt
  · have hp : A * T ≤ 2 ^ (16 * n - 2) := Nat.le_trans (Nat.mul_le_mul (Nat.le_of_lt ra) (Nat.le_of_lt rt)) hb2
    generalize A * T = P at hp
    refine ⟨?_, sgn_bits s63 (by omega) (Or.inl (by omega))⟩
    rw [if_neg (fun x => by have := na.mp x; omega), if_neg (fun x => by have := nt.mp x; omega), if_neg (fun x => by have := (negP P (by omega)).mp x; omega), show P / 2 ^ 64 = 0 by omega]
    rfl
  · obtain ⟨τ, hτ⟩ : ∃ τ, T + τ = 2 ^ 64 := ⟨2 ^ 64 - T, by omega⟩
    have hp : A * τ ≤ 2 ^ (16 * n - 2) := Nat.le_trans (Nat.mul_le_mul (Nat.le_of_lt ra) (by omega)) hb2
    have eP : A * T + A * τ = 2 ^ 64 * A := by rw [← Nat.mul_add, hτ, Nat.mul_comm]
    have hAτ : A * τ = 0 ∨ 0 < A * τ := Nat.eq_zero_or_pos _
    have hA0 : A = 0 → A * τ = 0 := fun h => by rw [h, Nat.zero_mul]
    generalize A * τ = R at *
    generalize A * T = P at *
    have eM : lN P = lN ((2 ^ 64 - R) % 2 ^ 64) := wN_eq (by omega)
    rw [eM]
    refine ⟨?_, sgn_bits s63 (Nat.mod_lt _ (by decide)) (by omega)⟩
    rw [if_neg (fun x => by have := na.mp x; omega), if_pos (nt.mpr (by omega)), Int64.zero_add, wN_sub2 (by omega)]
    rcases hAτ with h0 | h0
    · rw [if_neg (fun x => by have := (negP _ (Nat.mod_lt _ (by decide))).mp x; omega)]
      exact wN_eq (b := 0) (by omega)
    · rw [if_pos ((negP _ (Nat.mod_lt _ (by decide))).mpr (by omega))]
      exact wN_eq (b := 2 ^ 64 - 1) (by omega)
  · obtain ⟨α, hα⟩ : ∃ α, A + α = 2 ^ 64 := ⟨2 ^ 64 - A, by omega⟩
    have hp : α * T ≤ 2 ^ (16 * n - 2) := Nat.le_trans (Nat.mul_le_mul (by omega) (Nat.le_of_lt rt)) hb2
    have eP : A * T + α * T = 2 ^ 64 * T := by rw [← Nat.add_mul, hα]
    have hAτ : α * T = 0 ∨ 0 < α * T := Nat.eq_zero_or_pos _
    have hα0 : 0 < α := by omega
    have hT0 : α * T = 0 → T = 0 := fun h => by rcases Nat.mul_eq_zero.mp h with x | x <;> omega
    have hT1 : T = 0 → α * T = 0 := fun h => by rw [h, Nat.mul_zero]
    generalize α * T = R at *
    generalize A * T = P at *
    have eM : lN P = lN ((2 ^ 64 - R) % 2 ^ 64) := wN_eq (by omega)
    rw [eM]
    refine ⟨?_, sgn_bits s63 (Nat.mod_lt _ (by decide)) (by omega)⟩
    rw [if_pos (na.mpr (by omega)), if_neg (fun x => by have := nt.mp x; omega), Int64.add_zero, wN_sub2 (by omega)]
    rcases hAτ with h0 | h0
    · rw [if_neg (fun x => by have := (negP _ (Nat.mod_lt _ (by decide))).mp x; omega)]
      exact wN_eq (b := 0) (by omega)
    · rw [if_pos ((negP _ (Nat.mod_lt _ (by decide))).mpr (by omega))]
      exact wN_eq (b := 2 ^ 64 - 1) (by omega)
  · obtain ⟨α, hα⟩ : ∃ α, A + α = 2 ^ 64 := ⟨2 ^ 64 - A, by omega⟩
    obtain ⟨τ, hτ⟩ : ∃ τ, T + τ = 2 ^ 64 := ⟨2 ^ 64 - T, by omega⟩
    have hp : α * τ ≤ 2 ^ (16 * n - 2) := Nat.le_trans (Nat.mul_le_mul (by omega) (by omega)) hb2
    have eP : A * T + 2 ^ 64 * (α + τ) = 2 ^ 64 * 2 ^ 64 + α * τ := by
      have e1 : 2 ^ 64 * (α + τ) = (T + τ) * α + (A + α) * τ := by rw [hτ, hα, Nat.mul_add]
      have e2 : 2 ^ 64 * 2 ^ 64 = (A + α) * (T + τ) := by rw [hα, hτ]
      rw [e1, e2, Nat.add_mul, Nat.add_mul, Nat.add_mul, Nat.mul_add, Nat.mul_add]
      have c1 := Nat.mul_comm T α
      have c2 := Nat.mul_comm τ α
      omega
    generalize α * τ = R at *
    generalize A * T = P at *
    have eM : lN P = lN R := wN_eq (by omega)
    rw [eM]
    refine ⟨?_, sgn_bits s63 (by omega) (Or.inl (by omega))⟩
    rw [if_pos (na.mpr (by omega)), if_pos (nt.mpr (by omega)), wN_add, wb_mod (T + A), wN_sub2 (Nat.le_of_lt (Nat.mod_lt _ (by decide))), if_neg (fun x => by have := (negP R (by omega)).mp x; omega)]
    exact wN_eq (b := 0) (by omega)
