theorem w4_ok : ∀ a b c d : Bool, ((((38505 : Int32) >>> ((((if a then 1 else 0) ||| (if b then 2 else 0) ||| (if c then 4 else 0) ||| (if d then 8 else 0)) : Int32) &&& 31)) &&& (1 : Int32)) * (4 : Int32)) = if (a ^^ b ^^ c ^^ d) then 0 else 4 := by decide +kernel
theorem fold4 (v : Int64) : (((v ^^^ (z_lushr v (4 : Int32))).toInt32) &&& (15 : Int32)) = ((if (tb v 0 ^^ tb v 4) then 1 else 0) ||| (if (tb v 1 ^^ tb v 5) then 2 else 0) ||| (if (tb v 2 ^^ tb v 6) then 4 else 0) ||| (if (tb v 3 ^^ tb v 7) then 8 else 0) : Int32) := by
  refine tI_ext (fun i hi => ?_)
  rw [tI_and, tI_l2i, tb_xor, show (4 : Int32) = nI 4 from rfl, tb_ushr _ _ (by decide), show (15 : Int32) = nI (2 ^ 4 - 1) from rfl, tI_msk _ (by decide), tI_or, tI_or, tI_or, tI_if _ (k := 0) (v := 1) (by decide) rfl, tI_if _ (k := 1) (v := 2) (by decide) rfl, tI_if _ (k := 2) (v := nI 4) (by decide) rfl, tI_if _ (k := 3) (v := 8) (by decide) rfl, decide_eq_true hi]
  by_cases h0 : i = 0
  · subst h0; simp
  by_cases h1 : i = 1
  · subst h1; simp
  by_cases h2 : i = 2
  · subst h2; simp
  by_cases h3 : i = 3
  · subst h3; simp
  rw [decide_eq_false h0, decide_eq_false h1, decide_eq_false h2, decide_eq_false h3, decide_eq_false (show ¬ i < 4 by omega)]
  simp
theorem shl_0 (v : Int64) {n : Nat} (h1 : 1 ≤ n) (h8 : n ≤ 8) : (z_lshl v (nI (64 - 8 * n)) = 0) ↔ v &&& mk n = 0 := by
  rw [and_mk0 v h8]
  constructor
  · intro h i hi
    have := congrArg (fun y => tb y (i + (64 - 8 * n))) h
    rw [tb_shl _ _ (by omega), tb_0, decide_eq_true (by omega), decide_eq_false (by omega), show i + (64 - 8 * n) - (64 - 8 * n) = i by omega] at this
    simpa using this
  · intro h
    refine tb_ext (fun i hi => ?_)
    rw [tb_shl _ _ (by omega), tb_0]
    by_cases c : i < 64 - 8 * n
    · rw [decide_eq_true c]; simp
    · rw [h (i - (64 - 8 * n)) (by omega)]; simp
theorem shl_s (v : Int64) {n : Nat} (h1 : 1 ≤ n) (h8 : n ≤ 8) : ((0 : Int64) ≤ z_lshl v (nI (64 - 8 * n))) ↔ sF v n = false := by
  have e : tb (z_lshl v (nI (64 - 8 * n))) 63 = tb v (8 * n - 1) := by
    rw [tb_shl _ _ (by omega), decide_eq_true (by decide), decide_eq_false (by omega), show 63 - (64 - 8 * n) = 8 * n - 1 by omega]; rfl
  unfold sF
  rw [← e]
  have h := tb_lt0 (z_lshl v (nI (64 - 8 * n)))
  constructor
  · intro x
    cases hh : tb (z_lshl v (nI (64 - 8 * n))) 63 with
    | false => rfl
    | true => exact absurd (h.mpr hh) (Int64.not_lt.mpr x)
  · intro x
    exact Int64.not_lt.mp (fun y => by rw [h.mp y] at x; cases x)
theorem or4 : ∀ z s p : Bool, (((if z then (64 : Int32) else 0) ||| (if s then (128 : Int32) else 0)) ||| (if p then (4 : Int32) else 0)) = fwB false p false z s false false := by decide +kernel
theorem K_flagsOf (v : Int64) {n : Nat} (h1 : 1 ≤ n) (h8 : n ≤ 8) (q : z_Sg) : f_Ar_flagsOf v (nI n) q = some (fwB false (pF v) false (zF v n) (sF v n) false false) := by
  unfold f_Ar_flagsOf k_Ar_flagsOf_37 k_Ar_flagsOf_51
  rw [(z_64m h1 h8).1, po_nm2, po_nm2, po_nm2, fold4, w4_ok]
  have hp : (if ((tb v 0 ^^ tb v 4) ^^ (tb v 1 ^^ tb v 5) ^^ (tb v 2 ^^ tb v 6) ^^ (tb v 3 ^^ tb v 7)) = true then (0 : Int32) else 4) = if pF v then 4 else 0 := by
    have : ∀ a b c d e f g h : Bool, (if ((a ^^ e) ^^ (b ^^ f) ^^ (c ^^ g) ^^ (d ^^ h)) = true then (0 : Int32) else 4) = if (!((((((((false ^^ a) ^^ b) ^^ c) ^^ d) ^^ e) ^^ f) ^^ g) ^^ h)) = true then 4 else 0 := by decide +kernel
    exact this _ _ _ _ _ _ _ _
  rw [hp, ← or4]
  have hz : (z_lshl v (nI (64 - 8 * n)) = 0) ↔ zF v n = true := by
    rw [shl_0 v h1 h8]
    unfold zF
    exact (decide_eq_true_iff).symm
  have hs := shl_s v h1 h8
  by_cases cz : zF v n = true
  · rw [if_pos (hz.mpr cz), cz]
    by_cases cs : sF v n = false
    · rw [if_pos (hs.mpr cs), cs]; rfl
    · rw [if_neg (fun x => cs (hs.mp x))]
      have : sF v n = true := by simpa using cs
      rw [this]; rfl
  · rw [if_neg (fun x => cz (hz.mp x))]
    have ez : zF v n = false := by simpa using cz
    rw [ez]
    by_cases cs : sF v n = false
    · rw [if_pos (hs.mpr cs), cs]; rfl
    · rw [if_neg (fun x => cs (hs.mp x))]
      have : sF v n = true := by simpa using cs
      rw [this]; rfl
theorem K_settle (t v o : Int32) (q : z_Sg) : f_Ar_settle t v o q = some (z_sI q 0 ((((z_gI q 0) &&& ((t ||| o) ^^^ (-1 : Int32))) ||| (v &&& t)) ||| (((z_gL q 4).toInt32) &&& o))) := rfl
def cr (a b : Int64) (c : Bool) : Nat → Bool
  | 0 => c
  | i + 1 => (tb a i && tb b i) || ((tb a i || tb b i) && cr a b c i)
def br (a b : Int64) (c : Bool) : Nat → Bool
  | 0 => c
  | i + 1 => (!tb a i && tb b i) || (!(tb a i ^^ tb b i) && br a b c i)
theorem cr_carry (a b : Int64) (c : Bool) : ∀ i, cr a b c i = BitVec.carry i a.toBitVec b.toBitVec c
  | 0 => by rw [BitVec.carry_zero]; rfl
  | i + 1 => by
    rw [BitVec.carry_succ, ← cr_carry a b c i]
    show ((tb a i && tb b i) || ((tb a i || tb b i) && cr a b c i)) = Bool.atLeastTwo (tb a i) (tb b i) (cr a b c i)
    cases tb a i <;> cases tb b i <;> cases cr a b c i <;> rfl
def bL (c : Bool) : Int64 := if c then 1 else 0
theorem tb_sum (a b : Int64) (c : Bool) (i : Nat) (hi : i < 64) : tb ((a + b) + bL c) i = (tb a i ^^ (tb b i ^^ cr a b c i)) := by
  have e : ((a + b) + bL c).toBitVec = a.toBitVec + b.toBitVec + BitVec.setWidth 64 (BitVec.ofBool c) := by
    rw [Int64.toBitVec_add, Int64.toBitVec_add]
    congr 1
    cases c <;> rfl
  unfold tb
  rw [e, BitVec.getLsbD_add_add_bool hi, cr_carry]
theorem br_cr (a b : Int64) (c : Bool) : ∀ i, i ≤ 64 → br a b c i = !cr a (b ^^^ -1) (!c) i
  | 0, _ => by show c = !(!c); rw [Bool.not_not]
  | i + 1, h => by
    show ((!tb a i && tb b i) || (!(tb a i ^^ tb b i) && br a b c i)) = !((tb a i && tb (b ^^^ -1) i) || ((tb a i || tb (b ^^^ -1) i) && cr a (b ^^^ -1) (!c) i))
    rw [br_cr a b c i (by omega), tb_xor, tb_m1, decide_eq_true (show i < 64 by omega)]
    cases tb a i <;> cases tb b i <;> cases cr a (b ^^^ -1) (!c) i <;> rfl
theorem tb_dif (a b : Int64) (c : Bool) (i : Nat) (hi : i < 64) : tb ((a - b) - bL c) i = (tb a i ^^ (tb b i ^^ br a b c i)) := by
  have e : (a - b) - bL c = (a + (b ^^^ -1)) + bL (!c) := by
    have h1 : b ^^^ -1 = -b - 1 := by
      refine wb_inj ?_
      rw [Int64.toBitVec_xor, Int64.toBitVec_sub]
      show b.toBitVec ^^^ BitVec.allOnes 64 = (-b).toBitVec - 1#64
      rw [Int64.toBitVec_neg, BitVec.xor_allOnes, BitVec.neg_eq_not_add]
      show ~~~b.toBitVec = ~~~b.toBitVec + 1#64 - 1#64
      rw [BitVec.add_sub_cancel]
    rw [h1]
    cases c with
    | true =>
      show (a - b) - 1 = (a + (-b - 1)) + 0
      rw [Int64.add_zero, Int64.sub_eq_add_neg, Int64.sub_eq_add_neg, Int64.sub_eq_add_neg (-b), Int64.add_assoc]
    | false =>
      show (a - b) - 0 = (a + (-b - 1)) + 1
      rw [Int64.sub_zero, Int64.sub_eq_add_neg, Int64.add_assoc, Int64.sub_add_cancel]
  rw [e, tb_sum _ _ _ i hi, br_cr a b c i (by omega), tb_xor, tb_m1, decide_eq_true hi]
  cases tb a i <;> cases tb b i <;> cases cr a (b ^^^ -1) (!c) i <;> rfl
