theorem sI_sI (q : z_Sg) (k : Nat) (a b : Int32) : z_sI (z_sI q k a) k b = z_sI q k b := by
  unfold z_sI
  refine Prod.ext rfl (Prod.ext ?_ rfl)
  funext j
  show (if j = k then b else if j = k then a else q.2.1 j) = if j = k then b else q.2.1 j
  by_cases h : j = k
  · rw [if_pos h, if_pos h]
  · rw [if_neg h, if_neg h, if_neg h]
theorem sI_id (q : z_Sg) (k : Nat) : z_sI q k (z_gI q k) = q := by
  unfold z_sI z_gI
  refine Prod.ext rfl (Prod.ext ?_ rfl)
  funext j
  show (if j = k then q.2.1 k else q.2.1 j) = q.2.1 j
  by_cases h : j = k
  · rw [if_pos h, h]
  · rw [if_neg h]
def mrI (how u : Int32) : Int32 := (if how = 1 then 2 else 0) + (if u = 0 then 0 else 4) + (if how = 2 then 16 else 0)
def mrL (c : Int64) (how u : Int32) : Int64 := (-2 - c - (if how = 1 then 2 else if how = 2 then 16 else 0)) - (if u = 0 then 0 else 4)
theorem K_refused (c : Int64) (how : Int32) (q : z_Sg) : f_Pa_refused c how q = some (mrL c how (z_gI q 2)) := by
  unfold f_Pa_refused k_Pa_refused_23 k_Pa_refused_50 mrL
  by_cases hu : z_gI q 2 = 0
  · simp only [if_pos hu]
    by_cases h1 : how = 1
    · rw [if_pos h1, if_pos h1]
    · rw [if_neg h1, if_neg h1]
      by_cases h2 : how = 2
      · rw [if_pos h2, if_pos h2]
      · rw [if_neg h2, if_neg h2]
  · simp only [if_neg hu]
    by_cases h1 : how = 1
    · rw [if_pos h1, if_pos h1]
    · rw [if_neg h1, if_neg h1]
      by_cases h2 : how = 2
      · rw [if_pos h2, if_pos h2]
      · rw [if_neg h2, if_neg h2]
def locR (q : z_Sg) (a : Int64) (o : Int64 × z_Sg) : Prop := ∃ c, o.2 = z_sI q 1 c ∧ ((¬ a < 0 ∧ o.1 = a) ∨ (a < 0 ∧ o.1 = -1 ∧ ¬ a = -1 ∧ -2 - a = c.toInt64))
theorem mr_rel (how u : Int32) : (∀ c ∈ ([0, 1, 9] : List Nat), mrL (lN c) how u < 0 ∧ ¬ mrL (lN c) how u = -1 ∧ -2 - mrL (lN c) how u = (mrI how u + nI c).toInt64) := by
  unfold mrL mrI
  by_cases h1 : how = 1
  · subst h1
    by_cases hu : u = 0
    · simp only [if_pos hu]; decide +kernel
    · simp only [if_neg hu]; decide +kernel
  · simp only [if_neg h1]
    by_cases h2 : how = 2
    · subst h2
      by_cases hu : u = 0
      · simp only [if_pos hu]; decide +kernel
      · simp only [if_neg hu]; decide +kernel
    · simp only [if_neg h2]
      by_cases hu : u = 0
      · simp only [if_pos hu]; decide +kernel
      · simp only [if_neg hu]; decide +kernel
theorem loc_no {q0 q : z_Sg} {how u : Int32} {c : Nat} (hc : c ∈ ([0, 1, 9] : List Nat)) {o : Int64 × z_Sg} (h1 : o.1 = -1) (h2 : o.2 = z_sI q0 1 (mrI how u + nI c)) : locR q0 (mrL (lN c) how u) o := by
  have := mr_rel how u c hc
  exact ⟨_, h2, Or.inr ⟨this.1, h1, this.2.1, this.2.2⟩⟩
theorem m_12_51 (x : Int64) : z_lshl ((z_lushr x (12 : Int32)) &&& ((z_lshl (1 : Int64) (((51 : Int32) - 12) + (1 : Int32))) - (1 : Int64))) (12 : Int32) = x &&& 4503599627366400 := by
  rw [show ((z_lshl (1 : Int64) (((51 : Int32) - 12) + (1 : Int32))) - (1 : Int64)) = lN (2 ^ 40 - 1) by decide +kernel, show (12 : Int32) = nI 12 from rfl]
  refine tb_ext (fun i hi => ?_)
  have hc : ∀ i, i < 64 → tb 4503599627366400 i = decide (12 ≤ i ∧ i < 52) := by decide +kernel
  rw [tb_shl _ _ (by decide), tb_and, tb_ushr _ _ (by decide), tb_msk _ (by decide), tb_and, hc i hi]
  by_cases h1 : i < 12
  · rw [decide_eq_true h1, decide_eq_false (show ¬ (12 ≤ i ∧ i < 52) by omega)]; simp
  · rw [decide_eq_false h1, decide_eq_true hi, show i - 12 + 12 = i by omega]
    by_cases h2 : i < 52
    · rw [decide_eq_true (show 12 ≤ i ∧ i < 52 by omega), decide_eq_true (show i - 12 < 40 by omega)]; rfl
    · rw [decide_eq_false (show ¬ (12 ≤ i ∧ i < 52) by omega), decide_eq_false (show ¬ i - 12 < 40 by omega)]; rfl
theorem m_13_20 (x : Int64) : ((z_lushr x (13 : Int32)) &&& ((z_lshl (1 : Int64) (((20 : Int32) - 13) + (1 : Int32))) - (1 : Int64)) = 0) ↔ (x &&& 2088960 = 0) := by
  rw [show ((z_lshl (1 : Int64) (((20 : Int32) - 13) + (1 : Int32))) - (1 : Int64)) = lN (2 ^ 8 - 1) by decide +kernel, show (13 : Int32) = nI 13 from rfl]
  have hc : ∀ i, i < 64 → tb 2088960 i = decide (13 ≤ i ∧ i < 21) := by decide +kernel
  constructor
  · intro h
    refine tb_ext (fun i hi => ?_)
    rw [tb_and, hc i hi, tb_0]
    by_cases h2 : 13 ≤ i ∧ i < 21
    · have := congrArg (fun y => tb y (i - 13)) h
      rw [tb_and, tb_ushr _ _ (by decide), tb_msk _ (by decide), tb_0, show i - 13 + 13 = i by omega, decide_eq_true (show i - 13 < 8 by omega), Bool.and_true] at this
      rw [this, Bool.false_and]
    · rw [decide_eq_false h2]; simp
  · intro h
    refine tb_ext (fun i hi => ?_)
    rw [tb_and, tb_ushr _ _ (by decide), tb_msk _ (by decide), tb_0]
    by_cases h2 : i < 8
    · have := congrArg (fun y => tb y (i + 13)) h
      rw [tb_and, hc (i + 13) (by omega), tb_0, decide_eq_true (show 13 ≤ i + 13 ∧ i + 13 < 21 by omega), Bool.and_true] at this
      rw [this, Bool.false_and]
    · rw [decide_eq_false h2]; simp
theorem tb_add {x y : Int64} (h : ∀ i, i < 64 → tb x i = true → tb y i = false) : x + y = x ||| y := by
  refine wb_inj ?_
  rw [Int64.toBitVec_add, Int64.toBitVec_or]
  refine BitVec.add_eq_or_of_and_eq_zero _ _ ?_
  refine BitVec.eq_of_getLsbD_eq (fun i hi => ?_)
  rw [BitVec.getLsbD_and]
  have := h i hi
  unfold tb at this
  cases hx : x.toBitVec.getLsbD i
  · simp
  · rw [this hx]; simp
theorem m_in_4k (e p : Int64) : (e &&& 4503599627366400) + ((z_lushr p (0 : Int32)) &&& ((z_lshl (1 : Int64) (((11 : Int32) - 0) + (1 : Int32))) - (1 : Int64))) = (e &&& 4503599627366400) ||| (p &&& 4095) := by
  have hc : ∀ i, i < 64 → tb 4503599627366400 i = decide (12 ≤ i ∧ i < 52) := by decide +kernel
  have hd : ∀ i, i < 64 → tb 4095 i = decide (i < 12) := by decide +kernel
  have e1 : ((z_lushr p (0 : Int32)) &&& ((z_lshl (1 : Int64) (((11 : Int32) - 0) + (1 : Int32))) - (1 : Int64))) = p &&& 4095 := by
    rw [show ((z_lshl (1 : Int64) (((11 : Int32) - 0) + (1 : Int32))) - (1 : Int64)) = 4095 by decide +kernel]
    rw [show z_lushr p 0 = p from tb_ext (fun i hi => by rw [show (0 : Int32) = nI 0 from rfl, tb_ushr _ _ (by decide)]; rfl)]
  rw [e1]
  refine tb_add (fun i hi h => ?_)
  rw [tb_and, hc i hi] at h
  rw [tb_and, hd i hi]
  by_cases h2 : i < 12
  · rw [decide_eq_false (show ¬ (12 ≤ i ∧ i < 52) by omega)] at h; simp at h
  · rw [decide_eq_false h2]; simp
theorem m_in_2m (e p : Int64) : (z_lshl ((z_lushr e (21 : Int32)) &&& ((z_lshl (1 : Int64) (((51 : Int32) - 21) + (1 : Int32))) - (1 : Int64))) (21 : Int32)) + ((z_lushr p (0 : Int32)) &&& ((z_lshl (1 : Int64) (((20 : Int32) - 0) + (1 : Int32))) - (1 : Int64))) = (e &&& 4503599625273344) ||| (p &&& 2097151) := by
  have hc : ∀ i, i < 64 → tb 4503599625273344 i = decide (21 ≤ i ∧ i < 52) := by decide +kernel
  have hd : ∀ i, i < 64 → tb 2097151 i = decide (i < 21) := by decide +kernel
  have e1 : ((z_lushr p (0 : Int32)) &&& ((z_lshl (1 : Int64) (((20 : Int32) - 0) + (1 : Int32))) - (1 : Int64))) = p &&& 2097151 := by
    rw [show ((z_lshl (1 : Int64) (((20 : Int32) - 0) + (1 : Int32))) - (1 : Int64)) = 2097151 by decide +kernel]
    rw [show z_lushr p 0 = p from tb_ext (fun i hi => by rw [show (0 : Int32) = nI 0 from rfl, tb_ushr _ _ (by decide)]; rfl)]
  have e2 : (z_lshl ((z_lushr e (21 : Int32)) &&& ((z_lshl (1 : Int64) (((51 : Int32) - 21) + (1 : Int32))) - (1 : Int64))) (21 : Int32)) = e &&& 4503599625273344 := by
    rw [show ((z_lshl (1 : Int64) (((51 : Int32) - 21) + (1 : Int32))) - (1 : Int64)) = lN (2 ^ 31 - 1) by decide +kernel, show (21 : Int32) = nI 21 from rfl]
    refine tb_ext (fun i hi => ?_)
    rw [tb_shl _ _ (by decide), tb_and, tb_ushr _ _ (by decide), tb_msk _ (by decide), tb_and, hc i hi]
    by_cases h1 : i < 21
    · rw [decide_eq_true h1, decide_eq_false (show ¬ (21 ≤ i ∧ i < 52) by omega)]; simp
    · rw [decide_eq_false h1, decide_eq_true hi, show i - 21 + 21 = i by omega]
      by_cases h2 : i < 52
      · rw [decide_eq_true (show 21 ≤ i ∧ i < 52 by omega), decide_eq_true (show i - 21 < 31 by omega)]; rfl
      · rw [decide_eq_false (show ¬ (21 ≤ i ∧ i < 52) by omega), decide_eq_false (show ¬ i - 21 < 31 by omega)]; rfl
  rw [e1, e2]
  refine tb_add (fun i hi h => ?_)
  rw [tb_and, hc i hi] at h
  rw [tb_and, hd i hi]
  by_cases h2 : i < 21
  · rw [decide_eq_false (show ¬ (21 ≤ i ∧ i < 52) by omega)] at h; simp at h
  · rw [decide_eq_false h2]; simp
