def tb (x : Int64) (i : Nat) : Bool := x.toBitVec.getLsbD i
def tI (x : Int32) (i : Nat) : Bool := x.toBitVec.getLsbD i
theorem tb_ext {x y : Int64} (h : ∀ i, i < 64 → tb x i = tb y i) : x = y := wb_inj (BitVec.eq_of_getLsbD_eq h)
theorem tI_ext {x y : Int32} (h : ∀ i, i < 32 → tI x i = tI y i) : x = y := Int32.toBitVec_inj.mp (BitVec.eq_of_getLsbD_eq h)
theorem tb_ge {x : Int64} {i : Nat} (h : 64 ≤ i) : tb x i = false := BitVec.getLsbD_of_ge _ _ h
theorem tI_ge {x : Int32} {i : Nat} (h : 32 ≤ i) : tI x i = false := BitVec.getLsbD_of_ge _ _ h
theorem tb_and (x y : Int64) (i : Nat) : tb (x &&& y) i = (tb x i && tb y i) := by unfold tb; rw [Int64.toBitVec_and, BitVec.getLsbD_and]
theorem tb_or (x y : Int64) (i : Nat) : tb (x ||| y) i = (tb x i || tb y i) := by unfold tb; rw [Int64.toBitVec_or, BitVec.getLsbD_or]
theorem tb_xor (x y : Int64) (i : Nat) : tb (x ^^^ y) i = (tb x i ^^ tb y i) := by unfold tb; rw [Int64.toBitVec_xor, BitVec.getLsbD_xor]
theorem tI_and (x y : Int32) (i : Nat) : tI (x &&& y) i = (tI x i && tI y i) := by unfold tI; rw [Int32.toBitVec_and, BitVec.getLsbD_and]
theorem tI_or (x y : Int32) (i : Nat) : tI (x ||| y) i = (tI x i || tI y i) := by unfold tI; rw [Int32.toBitVec_or, BitVec.getLsbD_or]
theorem tI_xor (x y : Int32) (i : Nat) : tI (x ^^^ y) i = (tI x i ^^ tI y i) := by unfold tI; rw [Int32.toBitVec_xor, BitVec.getLsbD_xor]
theorem tb_N (n i : Nat) : tb (lN n) i = (decide (i < 64) && n.testBit i) := by unfold tb; rw [wb_tb, BitVec.getLsbD_ofNat]
theorem tI_N (n i : Nat) : tI (nI n) i = (decide (i < 32) && n.testBit i) := by
  unfold tI
  show (BitVec.ofNat 32 n).getLsbD i = _
  rw [BitVec.getLsbD_ofNat]
theorem tb_0 (i : Nat) : tb 0 i = false := by rw [show (0 : Int64) = lN 0 from rfl, tb_N]; simp
theorem tI_0 (i : Nat) : tI 0 i = false := by rw [show (0 : Int32) = nI 0 from rfl, tI_N]; simp
theorem tb_m1 (i : Nat) : tb (-1) i = decide (i < 64) := by
  by_cases h : i < 64
  · rw [decide_eq_true h]
    have : ∀ i, i < 64 → tb (-1) i = true := by decide +kernel
    exact this i h
  · rw [tb_ge (by omega), decide_eq_false h]
theorem tb_msk {k : Nat} (i : Nat) (hk : k ≤ 64) : tb (lN (2 ^ k - 1)) i = decide (i < k) := by
  rw [tb_N, Nat.testBit_two_pow_sub_one]
  by_cases h : i < k
  · rw [decide_eq_true h, decide_eq_true (by omega)]; rfl
  · rw [decide_eq_false h]; simp
theorem tI_msk {k : Nat} (i : Nat) (hk : k ≤ 32) : tI (nI (2 ^ k - 1)) i = decide (i < k) := by
  rw [tI_N, Nat.testBit_two_pow_sub_one]
  by_cases h : i < k
  · rw [decide_eq_true h, decide_eq_true (by omega)]; rfl
  · rw [decide_eq_false h]; simp
theorem tb_255 (i : Nat) : tb 255 i = decide (i < 8) := tb_msk (k := 8) i (by decide)
theorem tI_255 (i : Nat) : tI 255 i = decide (i < 8) := tI_msk (k := 8) i (by decide)
theorem tb_1 (i : Nat) : tb 1 i = decide (i < 1) := tb_msk (k := 1) i (by decide)
theorem tb_ushr (x : Int64) {k : Nat} (i : Nat) (hk : k < 64) : tb (z_lushr x (nI k)) i = tb x (i + k) := by
  unfold tb z_lushr
  rw [wb_cu k hk]
  show (x.toBitVec >>> ((UInt64.ofNat k).toBitVec % 64)).getLsbD i = _
  have e : ((UInt64.ofNat k).toBitVec % 64).toNat = k := by
    have : ∀ k, k < 64 → ((UInt64.ofNat k).toBitVec % 64).toNat = k := by decide +kernel
    exact this k hk
  rw [BitVec.ushiftRight_eq', BitVec.getLsbD_ushiftRight, e, Nat.add_comm]
theorem tb_shl (x : Int64) {k : Nat} (i : Nat) (hk : k < 64) : tb (z_lshl x (nI k)) i = (decide (i < 64) && !decide (i < k) && tb x (i - k)) := by
  unfold tb z_lshl
  rw [wb_c k hk]
  show (x.toBitVec <<< ((lN k).toBitVec.smod 64)).getLsbD i = _
  rw [wb_tb, wb_sm k hk, BitVec.shiftLeft_eq', BitVec.getLsbD_shiftLeft, BitVec.toNat_ofNat, Nat.mod_eq_of_lt (by omega)]
theorem tb_sshr (x : Int64) {k : Nat} (i : Nat) (hk : k < 64) : tb (z_lshr x (nI k)) i = (decide (i < 64) && (if i + k < 64 then tb x (i + k) else tb x 63)) := by
  unfold tb z_lshr
  rw [wb_c k hk]
  show (x.toBitVec.sshiftRight ((lN k).toBitVec.smod 64).toNat).getLsbD i = _
  rw [wb_tb, wb_sm k hk, BitVec.toNat_ofNat, Nat.mod_eq_of_lt (by omega), BitVec.getLsbD_sshiftRight, BitVec.msb_eq_getLsbD_last]
  by_cases h : i < 64
  · rw [decide_eq_true h, decide_eq_false (show ¬ 64 ≤ i by omega), Nat.add_comm k i]; rfl
  · rw [decide_eq_false h, decide_eq_true (show 64 ≤ i by omega)]; rfl
theorem tI_l2i (x : Int64) (i : Nat) : tI x.toInt32 i = (decide (i < 32) && tb x i) := by
  unfold tI tb
  rw [Int64.toBitVec_toInt32, BitVec.getLsbD_signExtend]
  by_cases h : i < 32
  · rw [if_pos (by omega)]
  · rw [decide_eq_false h]; rfl
theorem tb_i2l (x : Int32) (i : Nat) : tb x.toInt64 i = (decide (i < 64) && (if i < 32 then tI x i else tI x 31)) := by
  unfold tI tb
  rw [Int32.toBitVec_toInt64, BitVec.getLsbD_signExtend, BitVec.msb_eq_getLsbD_last]
theorem tb_lt0 (x : Int64) : (x < 0) ↔ tb x 63 = true := by
  unfold tb
  rw [Int64.lt_iff_toInt_lt, show (0 : Int64).toInt = 0 from rfl, show x.toInt = x.toBitVec.toInt from rfl, show x.toBitVec.getLsbD 63 = x.toBitVec.msb from (BitVec.msb_eq_getLsbD_last _).symm]
  rw [BitVec.msb_eq_toInt]
  simp
theorem tb_bit1 (x : Int64) {k : Nat} (hk : k < 64) : ((z_lushr x (nI k)) &&& 1 = 1) ↔ tb x k = true := by
  constructor
  · intro h
    have := congrArg (fun y => tb y 0) h
    rw [tb_and, tb_ushr x 0 hk, tb_1] at this
    simpa using this
  · intro h
    refine tb_ext (fun i hi => ?_)
    rw [tb_and, tb_ushr x i hk, tb_1]
    by_cases h0 : i < 1
    · have : i = 0 := by omega
      subst this
      simp [h]
    · rw [decide_eq_false h0]; simp
theorem tb_and0 {x : Int64} (m : Int64) {k : Nat} (hm : ∀ i, tb m i = decide (i = k)) : (x &&& m = 0) ↔ tb x k = false := by
  constructor
  · intro h
    have := congrArg (fun y => tb y k) h
    rw [tb_and, hm, tb_0] at this
    simpa using this
  · intro h
    refine tb_ext (fun i hi => ?_)
    rw [tb_and, hm, tb_0]
    by_cases h0 : i = k
    · subst h0; rw [h]; rfl
    · rw [decide_eq_false h0]; simp
theorem tb_pw {k : Nat} (i : Nat) (hk : k < 64) : tb (lN (2 ^ k)) i = decide (i = k) := by
  rw [tb_N, Nat.testBit_two_pow]
  by_cases h : i = k
  · subst h; simp [hk]
  · rw [decide_eq_false h, decide_eq_false (show ¬ k = i from fun e => h e.symm)]; simp
