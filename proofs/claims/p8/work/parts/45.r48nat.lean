def uN (x : Int64) : Nat := x.toBitVec.toNat
theorem uN_lt (x : Int64) : uN x < 2 ^ 64 := x.toBitVec.isLt
theorem uN_l (x : Int64) : lN (uN x) = x := wb_inj (by rw [wb_tb]; unfold uN; simp)
theorem uN_N {n : Nat} (h : n < 2 ^ 64) : uN (lN n) = n := wb_tn h
theorem uN_M (n : Nat) : uN (lN n) = n % 2 ^ 64 := by unfold uN; rw [wb_tb, BitVec.toNat_ofNat]
theorem uN_inj {x y : Int64} (h : uN x = uN y) : x = y := by rw [← uN_l x, ← uN_l y, h]
theorem wN_eq {a b : Nat} (h : a % 2 ^ 64 = b % 2 ^ 64) : lN a = lN b := by rw [wb_mod a, wb_mod b, h]
theorem wN_add (a b : Nat) : lN a + lN b = lN (a + b) := wb_inj (by
  rw [Int64.toBitVec_add, wb_tb, wb_tb, wb_tb, BitVec.ofNat_add])
theorem wN_mul (a b : Nat) : lN a * lN b = lN (a * b) := wb_inj (by
  rw [Int64.toBitVec_mul, wb_tb, wb_tb, wb_tb, BitVec.ofNat_mul])
theorem wN_sub {a b : Nat} (h : b ≤ a) : lN a - lN b = lN (a - b) := by
  have : lN (a - b) + lN b = lN a := by rw [wN_add]; congr 1; omega
  rw [← this, Int64.add_sub_cancel]
theorem wN_neg {a : Nat} (h : a ≤ 2 ^ 64) : -lN a = lN (2 ^ 64 - a) := by
  have e : lN (2 ^ 64 - a) + lN a = 0 := by
    rw [wN_add, show 2 ^ 64 - a + a = 2 ^ 64 by omega]
    exact wN_eq (b := 0) (by decide)
  have : lN (2 ^ 64 - a) = -lN a := by
    have h2 : (lN (2 ^ 64 - a) + lN a) + -lN a = 0 + -lN a := congrArg (fun z => z + -lN a) e
    rw [Int64.add_assoc, Int64.add_right_neg, Int64.add_zero, Int64.zero_add] at h2
    exact h2
  exact this.symm
theorem uN_0 (x : Int64) : (x = 0) ↔ uN x = 0 := by
  constructor
  · intro h; rw [h]; rfl
  · intro h; exact uN_inj h
theorem uN_neg (x : Int64) : (x < 0) ↔ 2 ^ 63 ≤ uN x := by
  obtain ⟨n, hn, rfl⟩ := wb_of x
  rw [uN_N hn, Int64.lt_iff_toInt_lt, z_toInt hn]
  show (if n < 2 ^ 63 then (n : Int) else (n : Int) - 2 ^ 64) < 0 ↔ _
  split <;> omega
theorem uN_nn (x : Int64) : ((0 : Int64) ≤ x) ↔ uN x < 2 ^ 63 := by
  have := uN_neg x
  constructor
  · intro h
    rcases Nat.lt_or_ge (uN x) (2 ^ 63) with c | c
    · exact c
    · exact absurd (this.mpr c) (Int64.not_lt.mpr h)
  · intro h
    exact Int64.not_lt.mp (fun y => by have := this.mp y; omega)
theorem lN_shl1 (a : Nat) : z_lshl (lN a) 1 = lN (2 * a) := by rw [shl_1, wN_add]; congr 1; omega
theorem lN_bit {n k : Nat} (hn : n < 2 ^ 64) (hk : k < 64) : (z_lushr (lN n) (nI k)) &&& 1 = lN (n / 2 ^ k % 2) := by
  rw [z_lushr_N hn hk, wb_a1 (Nat.lt_of_le_of_lt (Nat.div_le_self _ _) hn)]
theorem lN_or1 (a : Nat) {b : Nat} (hb : b < 2) : lN (2 * a) ||| lN b = lN (2 * a + b) := by
  refine tb_ext (fun i hi => ?_)
  rw [tb_or, tb_N, tb_N, tb_N, decide_eq_true hi, Bool.true_and, Bool.true_and, Bool.true_and]
  have : 2 * a + b = 2 ^ 1 * a + b := by omega
  have : 2 * a + b = 2 * a ||| b := by
    have h := Nat.two_pow_add_eq_or_of_lt (i := 1) (b := b) (by omega) a
    rw [show 2 ^ 1 * a = 2 * a by omega] at h
    exact h
  rw [this, Nat.testBit_or]
theorem xmin (x : Int64) : x ^^^ (-9223372036854775808 : Int64) = x + (-9223372036854775808 : Int64) := by
  refine tb_ext (fun i hi => ?_)
  have t : ∀ i, i < 64 → tb (-9223372036854775808 : Int64) i = decide (i = 63) := by decide +kernel
  have e : x + (-9223372036854775808 : Int64) = (x + (-9223372036854775808 : Int64)) + bL false := by show _ = _ + 0; rw [Int64.add_zero]
  rw [e, tb_sum _ _ _ i hi, tb_xor, t i hi]
  have c0 : ∀ j, j ≤ 63 → cr x (-9223372036854775808 : Int64) false j = false := by
    intro j
    induction j with
    | zero => intro _; rfl
    | succ j ih =>
      intro hj
      show ((tb x j && tb (-9223372036854775808 : Int64) j) || ((tb x j || tb (-9223372036854775808 : Int64) j) && cr x (-9223372036854775808 : Int64) false j)) = false
      rw [ih (by omega), t j (by omega), decide_eq_false (show ¬ j = 63 by omega)]; simp
  rw [c0 i (by omega), Bool.xor_false]
theorem amin_toInt (x : Int64) : (x + (-9223372036854775808 : Int64)).toInt = (uN x : Int) - 2 ^ 63 := by
  obtain ⟨n, hn, rfl⟩ := wb_of x
  rw [uN_N hn, show (-9223372036854775808 : Int64) = lN (2 ^ 63) from rfl, wN_add]
  by_cases c : n < 2 ^ 63
  · rw [z_toInt (by omega), if_neg (by omega)]; omega
  · have : lN (n + 2 ^ 63) = lN (n - 2 ^ 63) := wN_eq (by omega)
    rw [this, z_toInt (by omega), if_pos (by omega)]; omega
theorem ule_a (x y : Int64) : (x + (-9223372036854775808 : Int64)) ≤ (y + (-9223372036854775808 : Int64)) ↔ uN x ≤ uN y := by
  rw [Int64.le_iff_toInt_le, amin_toInt, amin_toInt]; omega
theorem ult_a (x y : Int64) : (x + (-9223372036854775808 : Int64)) < (y + (-9223372036854775808 : Int64)) ↔ uN x < uN y := by
  rw [Int64.lt_iff_toInt_lt, amin_toInt, amin_toInt]; omega
theorem ule_x (x y : Int64) : (x ^^^ (-9223372036854775808 : Int64)) ≤ (y ^^^ (-9223372036854775808 : Int64)) ↔ uN x ≤ uN y := by
  rw [xmin, xmin, ule_a]
theorem K_isBelow (x y : Int64) (q : z_Sg) : f_Wi_isBelow x y q = some (b2i (decide (uN x < uN y))) := by
  unfold f_Wi_isBelow k_Wi_isBelow_19 z_gd
  by_cases c : uN y ≤ uN x
  · rw [if_pos ((ule_x _ _).mpr c), decide_eq_false (by omega)]; rfl
  · rw [if_neg (fun x => c ((ule_x _ _).mp x)), decide_eq_true (by omega)]; rfl
def uH (a b : Int64) : Int64 := lN (uN a * uN b / 2 ^ 64)
theorem mul_lt {a b : Nat} (ha : a < 2 ^ 64) (hb : b < 2 ^ 64) : a * b < 2 ^ 128 := by
  have : a * b ≤ (2 ^ 64 - 1) * (2 ^ 64 - 1) := Nat.mul_le_mul (by omega) (by omega)
  omega
theorem K_upper64 (a b : Int64) (q : z_Sg) : f_Wi_upperHalf a b q = some (uH a b) := by
  obtain ⟨A, hA, rfl⟩ := wb_of a
  obtain ⟨B, hB, rfl⟩ := wb_of b
  unfold f_Wi_upperHalf uH
  rw [po_nm2, po_nm2, po_nm2, po_nm2, po_nm2, po_nm2, uN_N hA, uN_N hB]
  have m32 : (4294967295 : Int64) = lN (2 ^ 32 - 1) := rfl
  have s32 : (32 : Int32) = nI 32 := rfl
  rw [m32, s32, wb_mask hA (by decide), wb_mask hB (by decide), z_lushr_N hA (by decide), z_lushr_N hB (by decide)]
  have a0 : A % 2 ^ 32 < 2 ^ 32 := Nat.mod_lt _ (by decide)
  have b0 : B % 2 ^ 32 < 2 ^ 32 := Nat.mod_lt _ (by decide)
  have a1 : A / 2 ^ 32 < 2 ^ 32 := by omega
  have b1 : B / 2 ^ 32 < 2 ^ 32 := by omega
  have eA : A = 2 ^ 32 * (A / 2 ^ 32) + A % 2 ^ 32 := by omega
  have eB : B = 2 ^ 32 * (B / 2 ^ 32) + B % 2 ^ 32 := by omega
  generalize A / 2 ^ 32 = x1 at *
  generalize A % 2 ^ 32 = x0 at *
  generalize B / 2 ^ 32 = y1 at *
  generalize B % 2 ^ 32 = y0 at *
  have hp : A * B = 2 ^ 64 * (x1 * y1) + 2 ^ 32 * (x1 * y0) + 2 ^ 32 * (x0 * y1) + x0 * y0 := by
    rw [eA, eB, Nat.add_mul, Nat.mul_add, Nat.mul_add]
    have e1 : 2 ^ 32 * x1 * (2 ^ 32 * y1) = 2 ^ 64 * (x1 * y1) := by
      rw [Nat.mul_assoc, Nat.mul_left_comm x1, ← Nat.mul_assoc]
    have e2 : 2 ^ 32 * x1 * y0 = 2 ^ 32 * (x1 * y0) := Nat.mul_assoc _ _ _
    have e3 : x0 * (2 ^ 32 * y1) = 2 ^ 32 * (x0 * y1) := Nat.mul_left_comm _ _ _
    rw [e1, e2, e3]
    omega
  have bd : ∀ a b : Nat, a < 2 ^ 32 → b < 2 ^ 32 → a * b ≤ 2 ^ 64 - 2 ^ 33 + 1 := by
    intro a b ha hb
    have : a * b ≤ (2 ^ 32 - 1) * (2 ^ 32 - 1) := Nat.mul_le_mul (by omega) (by omega)
    omega
  have p00 := bd x0 y0 a0 b0
  have p10 := bd x1 y0 a1 b0
  have p01 := bd x0 y1 a0 b1
  have p11 := bd x1 y1 a1 b1
  rw [hp]
  rw [wN_mul, wN_mul, wN_mul, wN_mul]
  generalize x0 * y0 = P00 at *
  generalize x1 * y0 = P10 at *
  generalize x0 * y1 = P01 at *
  generalize x1 * y1 = P11 at *
  rw [z_lushr_N (by omega) (by decide), wN_add, wb_mask (n := P10 + P00 / 2 ^ 32) (by omega) (by decide), wN_add, z_lushr_N (by omega) (by decide), z_lushr_N (by omega) (by decide), wN_add, wN_add]
  congr 1
  refine wN_eq ?_
  omega
theorem M_mul (a b : Int64) (m : z_Sg) : ∃ m', f_Mo_multiply a b m = some m' ∧ z_gL m' 8 = a * b ∧ z_gL m' 9 = uH a b ∧ fr [8, 9] [] [] [] m m' := by
  obtain ⟨A, hA, rfl⟩ := wb_of a
  obtain ⟨B, hB, rfl⟩ := wb_of b
  have key : ∀ (f k l h up by_ : Nat) (q : z_Sg), k ≤ 64 → 64 - k < f → fr [8, 9] [] [] [] m q → z_gL q 8 = lN l → z_gL q 9 = lN h → l < 2 ^ 64 → h < 2 ^ 64 → up < 2 ^ 64 → by_ < 2 ^ 64 → l + 2 ^ 64 * h = A * (B % 2 ^ k) → by_ + 2 ^ 64 * up = A * 2 ^ k ∨ k = 64 → ∃ m', z_lo (fun ih19 (a : Int64 × Int64 × Int64 × Int32 × z_Sg) => kb_Mo_multiply_19 ih19 a.1 a.2.1 a.2.2.1 a.2.2.2.1 a.2.2.2.2) f (lN B, lN up, lN by_, nI k, q) = some m' ∧ z_gL m' 8 = lN (A * B) ∧ z_gL m' 9 = lN (A * B / 2 ^ 64) ∧ fr [8, 9] [] [] [] m m' := by
    intro f
    induction f with
    | zero => intro k l h up by_ q _ hf; omega
    | succ f ih =>
      intro k l h up by_ q hk hf hfr hl hh l64 h64 u64 b64 hsum hby
      show ∃ m', kb_Mo_multiply_19 _ (lN B) (lN up) (lN by_) (nI k) q = some m' ∧ _
      unfold kb_Mo_multiply_19
      have hle : (64 : Int32) ≤ nI k ↔ 64 ≤ k := by
        rw [show (64 : Int32) = nI 64 from rfl]
        exact nI_leI (by omega) (by omega)
      by_cases c : 64 ≤ k
      · have k64 : k = 64 := by omega
        subst k64
        rw [if_pos (hle.mpr c)]
        rw [Nat.mod_eq_of_lt hB] at hsum
        refine ⟨q, rfl, ?_, ?_, hfr⟩
        · rw [hl]; exact wN_eq (by omega)
        · rw [hh, ← hsum]
          congr 1
          omega
      · rw [if_neg (fun x => c (hle.mp x))]
        have hby' : by_ + 2 ^ 64 * up = A * 2 ^ k := by
          rcases hby with h | h
          · exact h
          · omega
        have hbnd : A * 2 ^ k < 2 ^ 64 * 2 ^ k := Nat.mul_lt_mul_of_pos_right hA (Nat.two_pow_pos k)
        have h2k : 2 ^ k ≤ 2 ^ 63 := Nat.pow_le_pow_right (by decide) (by omega)
        have up63 : up < 2 ^ 63 := by
          have : 2 ^ 64 * up < 2 ^ 64 * 2 ^ k := by omega
          have := Nat.lt_of_mul_lt_mul_left this
          omega
        have nx : ∀ (l' h' : Nat) (q' : z_Sg), fr [8, 9] [] [] [] m q' → z_gL q' 8 = lN l' → z_gL q' 9 = lN h' → l' < 2 ^ 64 → h' < 2 ^ 64 → l' + 2 ^ 64 * h' = A * (B % 2 ^ (k + 1)) → ∃ m', k_Mo_multiply_108 (z_lo (fun ih19 (a : Int64 × Int64 × Int64 × Int32 × z_Sg) => kb_Mo_multiply_19 ih19 a.1 a.2.1 a.2.2.1 a.2.2.2.1 a.2.2.2.2) f) (lN B) (lN up) (lN by_) (nI k) q' = some m' ∧ z_gL m' 8 = lN (A * B) ∧ z_gL m' 9 = lN (A * B / 2 ^ 64) ∧ fr [8, 9] [] [] [] m m' := by
          intro l' h' q' hf' hl' hh' l64' h64' hs'
          unfold k_Mo_multiply_108
          rw [po_nm2, po_nm2, po_nm2, nI_S, lN_shl1, show (63 : Int32) = nI 63 from rfl, z_lushr_N b64 (by decide), lN_or1 _ (by omega), lN_shl1]
          have em : lN (2 * by_) = lN (2 * by_ % 2 ^ 64) := wb_mod _
          rw [em]
          refine ih (k + 1) l' h' (2 * up + by_ / 2 ^ 63) (2 * by_ % 2 ^ 64) q' (by omega) (by omega) hf' hl' hh' l64' h64' (by omega) (Nat.mod_lt _ (by decide)) hs' (Or.inl ?_)
          have e2 : A * 2 ^ (k + 1) = 2 * (A * 2 ^ k) := by rw [Nat.pow_succ]; rw [← Nat.mul_assoc, Nat.mul_comm]
          rw [e2, ← hby']
          omega
        have hbit : B % 2 ^ (k + 1) = B % 2 ^ k + 2 ^ k * (B / 2 ^ k % 2) := by rw [Nat.pow_succ, Nat.mod_mul]
        rw [lN_bit hB (by omega)]
        by_cases cb : B / 2 ^ k % 2 = 1
        · rw [cb, if_pos (show lN 1 = 1 from rfl), po_nm2, hl, wN_add]
          have hs2 : A * (B % 2 ^ (k + 1)) = (l + by_) + 2 ^ 64 * (h + up) := by
            rw [hbit, cb, Nat.mul_one, Nat.mul_add, ← hsum, ← hby']
            omega
          have hlt : A * (B % 2 ^ (k + 1)) < 2 ^ 128 := mul_lt hA (Nat.lt_of_le_of_lt (Nat.mod_le _ _) hB)
          have hcar : ((0 : Int64) ≤ ((lN l &&& lN by_) ||| ((lN l ||| lN by_) &&& (lN (l + by_) ^^^ (-1 : Int64))))) ↔ l + by_ < 2 ^ 64 := by
            have e : lN (l + by_) = (lN l + lN by_) + bL false := by rw [wN_add]; show _ = _ + 0; rw [Int64.add_zero]
            have t63 : tb ((lN l &&& lN by_) ||| ((lN l ||| lN by_) &&& (lN (l + by_) ^^^ (-1 : Int64)))) 63 = cr (lN l) (lN by_) false 64 := by
              rw [e, tb_or, tb_and, tb_and, tb_or, tb_xor, tb_m1, tb_sum _ _ _ 63 (by decide)]
              show _ = ((tb (lN l) 63 && tb (lN by_) 63) || ((tb (lN l) 63 || tb (lN by_) 63) && cr (lN l) (lN by_) false 63))
              cases tb (lN l) 63 <;> cases tb (lN by_) 63 <;> cases cr (lN l) (lN by_) false 63 <;> rfl
            have c64 : cr (lN l) (lN by_) false 64 = decide (2 ^ 64 ≤ l + by_) := by
              rw [cr_carry]
              unfold BitVec.carry
              rw [wb_tn l64, wb_tn b64, Nat.mod_eq_of_lt l64, Nat.mod_eq_of_lt b64]
              simp
            rw [c64] at t63
            have hn := tb_lt0 ((lN l &&& lN by_) ||| ((lN l ||| lN by_) &&& (lN (l + by_) ^^^ (-1 : Int64))))
            rw [t63] at hn
            constructor
            · intro x
              rcases Nat.lt_or_ge (l + by_) (2 ^ 64) with d | d
              · exact d
              · exact absurd (hn.mpr (decide_eq_true d)) (Int64.not_lt.mpr x)
            · intro d
              exact Int64.not_lt.mp (fun y => by have := of_decide_eq_true (hn.mp y); omega)
          have fin : ∀ (c : Nat), (c = if l + by_ < 2 ^ 64 then 0 else 1) → ∃ m', k_Mo_multiply_97 (z_lo (fun ih19 (a : Int64 × Int64 × Int64 × Int32 × z_Sg) => kb_Mo_multiply_19 ih19 a.1 a.2.1 a.2.2.1 a.2.2.2.1 a.2.2.2.2) f) (lN B) (lN up) (lN by_) (nI k) (lN (l + by_)) (z_gL q 9) (lN up) (lN c) q = some m' ∧ z_gL m' 8 = lN (A * B) ∧ z_gL m' 9 = lN (A * B / 2 ^ 64) ∧ fr [8, 9] [] [] [] m m' := by
            intro c hc
            unfold k_Mo_multiply_97
            rw [po_nm2, po_nm2, hh, wN_add, wN_add]
            have ec : l + by_ = (l + by_) % 2 ^ 64 + 2 ^ 64 * c := by
              rw [hc]; split <;> omega
            refine nx ((l + by_) % 2 ^ 64) (h + (up + c)) _ (fr_sL (fr_sL hfr (by decide)) (by decide)) ?_ rfl (Nat.mod_lt _ (by decide)) (by omega) (by rw [hs2]; omega)
            show lN (l + by_) = _
            exact wb_mod _
          unfold k_Mo_multiply_78
          by_cases cc : l + by_ < 2 ^ 64
          · rw [if_pos (hcar.mpr cc), if_pos rfl]
            exact fin 0 (by rw [if_pos cc])
          · rw [if_neg (fun x => cc (hcar.mp x)), if_neg (by decide)]
            exact fin 1 (by rw [if_neg cc])
        · have cb0 : B / 2 ^ k % 2 = 0 := by omega
          rw [cb0, if_neg (by decide)]
          refine nx l h q hfr hl hh l64 h64 ?_
          rw [hbit, cb0, Nat.mul_zero, Nat.add_zero]; exact hsum
  obtain ⟨m', k1, k2, k3, k4⟩ := key 2000 0 0 0 0 A (z_sL (z_sL m 8 0) 9 0) (by omega) (by omega) (fr_sL (fr_sL fr_0 (by decide)) (by decide)) rfl rfl (by omega) (by omega) (by omega) hA (by rw [Nat.pow_zero, Nat.mod_one]; omega) (Or.inl (by omega))
  refine ⟨m', k1, ?_, ?_, k4⟩
  · rw [k2, wN_mul]
  · rw [k3]; unfold uH; rw [uN_N hA, uN_N hB]
