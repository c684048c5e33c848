theorem tb_bL (b : Bool) (i : Nat) : tb (bL b) i = (decide (i = 0) && b) := by
  cases b with
  | false => show tb 0 i = _; rw [tb_0, Bool.and_false]
  | true =>
    show tb 1 i = _
    rw [tb_1, Bool.and_true]
    by_cases c : i = 0
    · rw [decide_eq_true c, decide_eq_true (by omega)]
    · rw [decide_eq_false c, decide_eq_false (by omega)]
def lb (v : Int64) (b : Bool) (s : Nat) : Int64 := (z_lshl v 1 &&& mk s) ||| bL b
def rb (v : Int64) (b : Bool) (s : Nat) : Int64 := z_lushr v 1 ||| (if b then z_lshl 1 (nI (8 * s - 1)) else 0)
theorem tb_lb (v : Int64) (b : Bool) {s : Nat} (h1 : 1 ≤ s) (h8 : s ≤ 8) (p : Nat) (hp : p < 64) : tb (lb v b s) p = (decide (p < 8 * s) && (if p = 0 then b else tb v (p - 1))) := by
  unfold lb
  rw [tb_or, tb_and, show (1 : Int32) = nI 1 from rfl, tb_shl v p (by decide), tb_mk h8 p hp, tb_bL, decide_eq_true hp]
  by_cases c : p = 0
  · subst c
    rw [if_pos rfl, decide_eq_true (show 0 < 8 * s by omega), decide_eq_true (show 0 < 1 by decide)]; simp
  · rw [if_neg c, decide_eq_false c, decide_eq_false (show ¬ p < 1 by omega)]; simp [Bool.and_comm]
theorem shl_1s (s : Nat) (h1 : 1 ≤ s) (h8 : s ≤ 8) : z_lshl 1 (nI (8 * s - 1)) = lN (2 ^ (8 * s - 1)) := by
  have := z_lshl_N 1 (show 8 * s - 1 < 64 by omega)
  rw [Nat.one_mul] at this
  exact this
theorem tb_rb (v : Int64) (b : Bool) {s : Nat} (h1 : 1 ≤ s) (h8 : s ≤ 8) (p : Nat) : tb (rb v b s) p = (tb v (p + 1) || (decide (p = 8 * s - 1) && b)) := by
  unfold rb
  rw [tb_or, show (1 : Int32) = nI 1 from rfl, tb_ushr v p (by decide)]
  cases b with
  | false => rw [if_neg (by decide), tb_0]; simp
  | true => rw [if_pos rfl, shl_1s s h1 h8, tb_pw p (by omega)]; simp
theorem s8_i {s : Nat} (h8 : s ≤ 8) : (8 : Int32) * nI s = nI (8 * s) := by
  have : ∀ s, s ≤ 8 → (8 : Int32) * nI s = nI (8 * s) := by decide +kernel
  exact this s h8
theorem nI_su {a b : Nat} (ha : a ≤ 64) (hb : b ≤ a) : nI a - nI b = nI (a - b) := by
  have : ∀ a, a < 65 → ∀ b, b < 65 → b ≤ a → nI a - nI b = nI (a - b) := by decide +kernel
  exact this a (by omega) b (by omega) hb
theorem nI_cm {a b : Nat} (ha : a ≤ 65) (hb : b ≤ 65) : (nI a ≤ nI b ↔ a ≤ b) ∧ (nI a = nI b ↔ a = b) ∧ (nI a < nI b ↔ a < b) := by
  have : ∀ a, a < 66 → ∀ b, b < 66 → (nI a ≤ nI b ↔ a ≤ b) ∧ (nI a = nI b ↔ a = b) ∧ (nI a < nI b ↔ a < b) := by decide +kernel
  exact this a (by omega) b (by omega)
theorem M_leftBy (v : Int64) (b : Bool) {s : Nat} (h1 : 1 ≤ s) (h8 : s ≤ 8) (q : z_Sg) : f_Mo_leftBy v (b2i b) (nI s) q = some (lb v b s, z_sI q 19 (b2i (sF v s))) := by
  unfold f_Mo_leftBy k_Mo_leftBy_27
  rw [M_top v h1 h8, po_bs2]
  have hb : z_bo (b2i (sF v s)) := by cases sF v s <;> decide
  unfold z_gd
  rw [if_pos hb, po_nm2, M_lowest _ h8, po_bs2]
  cases b with
  | false => rw [if_pos (show b2i false = 0 from rfl)]; rfl
  | true => rw [if_neg (show ¬ b2i true = 0 by decide)]; rfl
theorem bit0_1 (x : Int64) : (x &&& 1 = 1) ↔ tb x 0 = true := by
  have := tb_bit1 x (show 0 < 64 by decide)
  rw [← this]
  have e : z_lushr x (nI 0) = x := tb_ext (fun i _ => by rw [tb_ushr x i (by decide), Nat.add_zero])
  rw [e]
theorem M_rightBy (v : Int64) (b : Bool) {s : Nat} (h1 : 1 ≤ s) (h8 : s ≤ 8) (q : z_Sg) : f_Mo_rightBy v (b2i b) (nI s) q = some (rb v b s, z_sI q 19 (b2i (tb v 0))) := by
  have go : ∀ c : Bool, k_Mo_rightBy_14 v (b2i b) (nI s) (b2i c) q = some (rb v b s, z_sI q 19 (b2i c)) := by
    intro c
    unfold k_Mo_rightBy_14 k_Mo_rightBy_37 z_gd
    have hb : z_bo (b2i c) := by cases c <;> decide
    rw [if_pos hb, po_nm2, s8_i h8, show (1 : Int32) = nI 1 from rfl, nI_su (by omega) (by omega)]
    cases b with
    | false => rw [if_pos (show b2i false = 0 from rfl)]; rfl
    | true => rw [if_neg (show ¬ b2i true = 0 by decide)]; rfl
  unfold f_Mo_rightBy
  cases c : tb v 0 with
  | true => rw [if_pos ((bit0_1 v).mpr c)]; exact go true
  | false => rw [if_neg (fun z => by rw [(bit0_1 v).mp z] at c; cases c)]; exact go false
def Lv (v : Int64) (s i : Nat) : Int64 := z_lshl v (nI i) &&& mk s
def Rv (v : Int64) (s i : Nat) : Int64 := z_lushr v (nI i)
def Av (v : Int64) (s i : Nat) : Int64 := z_lshr (sx v s) (nI i) &&& mk s
theorem mk_hi {v : Int64} {s : Nat} (h8 : s ≤ 8) (hv : v &&& mk s = v) (p : Nat) (hp : 8 * s ≤ p) : tb v p = false := by
  by_cases c : p < 64
  · rw [← hv, tb_and, tb_mk h8 p c, decide_eq_false (by omega), Bool.and_false]
  · exact tb_ge (by omega)
theorem tb_Lv (v : Int64) {s i : Nat} (h8 : s ≤ 8) (hi : i < 64) (p : Nat) (hp : p < 64) : tb (Lv v s i) p = (decide (p < 8 * s) && (!decide (p < i) && tb v (p - i))) := by
  unfold Lv
  rw [tb_and, tb_shl v p hi, tb_mk h8 p hp, decide_eq_true hp, Bool.true_and, Bool.and_comm]
theorem Lv_S (v : Int64) {s i : Nat} (h1 : 1 ≤ s) (h8 : s ≤ 8) (hi : i + 1 < 64) : lb (Lv v s i) false s = Lv v s (i + 1) := by
  refine tb_ext (fun p hp => ?_)
  rw [tb_lb _ _ h1 h8 p hp, tb_Lv v h8 hi p hp]
  by_cases c0 : p = 0
  · rw [if_pos c0, decide_eq_true (show p < i + 1 by omega)]; simp
  · rw [if_neg c0, tb_Lv v h8 (by omega) (p - 1) (by omega), show p - 1 - i = p - (i + 1) by omega]
    by_cases c1 : p < i + 1
    · rw [decide_eq_true c1, decide_eq_true (show p - 1 < i by omega)]; simp
    · rw [decide_eq_false c1, decide_eq_false (show ¬ p - 1 < i by omega)]
      by_cases c2 : p < 8 * s
      · rw [decide_eq_true c2, decide_eq_true (show p - 1 < 8 * s by omega)]; simp
      · rw [decide_eq_false c2]; simp
theorem Rv_S (v : Int64) {s i : Nat} (hi : i + 1 < 64) : rb (Rv v s i) false s = Rv v s (i + 1) := by
  refine tb_ext (fun p hp => ?_)
  unfold rb Rv
  rw [if_neg (by decide), tb_or, tb_0, Bool.or_false, show (1 : Int32) = nI 1 from rfl, tb_ushr _ p (by decide), tb_ushr v _ (by omega), tb_ushr v _ hi]
  congr 1; omega
theorem tb_Av (v : Int64) {s i : Nat} (h8 : s ≤ 8) (hi : i < 64) (p : Nat) (hp : p < 64) : tb (Av v s i) p = (decide (p < 8 * s) && tb (sx v s) (min (p + i) 63)) := by
  unfold Av
  rw [tb_and, tb_sshr _ p hi, tb_mk h8 p hp, decide_eq_true hp]
  by_cases c : p + i < 64
  · rw [if_pos c, show min (p + i) 63 = p + i by omega, Bool.true_and, Bool.and_comm]
  · rw [if_neg c, show min (p + i) 63 = 63 by omega, Bool.true_and, Bool.and_comm]
theorem sx_hi (v : Int64) {s : Nat} (h1 : 1 ≤ s) (h8 : s ≤ 8) (p : Nat) (h : 8 * s - 1 ≤ p) (hp : p < 64) : tb (sx v s) p = sF v s := by
  rw [tb_sx v h1 h8 p hp]
  by_cases c : p < 8 * s
  · rw [if_pos c, show p = 8 * s - 1 by omega]; rfl
  · rw [if_neg c]; rfl
theorem Av_S (v : Int64) {s i : Nat} (h1 : 1 ≤ s) (h8 : s ≤ 8) (hi : i + 1 < 64) : rb (Av v s i) (sF v s) s = Av v s (i + 1) := by
  refine tb_ext (fun p hp => ?_)
  rw [tb_rb _ _ h1 h8 p, tb_Av v h8 hi p hp]
  by_cases c : p + 1 < 64
  · rw [tb_Av v h8 (by omega) (p + 1) c, show p + 1 + i = p + (i + 1) by omega]
    by_cases c2 : p + 1 < 8 * s
    · rw [decide_eq_true c2, decide_eq_true (show p < 8 * s by omega), decide_eq_false (show ¬ p = 8 * s - 1 by omega)]; simp
    · rw [decide_eq_false c2, Bool.false_and, Bool.false_or]
      by_cases c3 : p = 8 * s - 1
      · rw [decide_eq_true c3, decide_eq_true (show p < 8 * s by omega), sx_hi v h1 h8 _ (by omega) (by omega)]
      · rw [decide_eq_false c3, decide_eq_false (show ¬ p < 8 * s by omega)]; simp
  · rw [tb_ge (by omega), Bool.false_or]
    by_cases c3 : p = 8 * s - 1
    · rw [decide_eq_true c3, decide_eq_true (show p < 8 * s by omega), sx_hi v h1 h8 _ (by omega) (by omega)]
    · rw [decide_eq_false c3, decide_eq_false (show ¬ p < 8 * s by omega)]; simp
def shT (c s : Nat) (x7 : Int32) (V : Int64) (q : z_Sg) : Option (Int64 × z_Sg) :=
  z_nm (z_sN q 1 (0 : Int32).toNatClampNeg (vp_nar .boolean (z_gI q 19))) (fun q4 => if nI c ≤ ((8 : Int32) * nI s) then (k_Mo_shifted_108 (nI c) (nI s) V x7 q4) else (if (z_gI q4 8) = (7 : Int32) then (k_Mo_shifted_108 (nI c) (nI s) V x7 q4) else ((f_Mo_leave (0 : Int32) q4).bind (fun r18 => k_Mo_shifted_108 (nI c) (nI s) V x7 r18))))
theorem M_shl {V : Nat → Int64} {W : Nat → Bool} {c s r : Nat} {x7 : Int32} {m : z_Sg} (hc : c < 64) (hc1 : 1 ≤ c) (hr : z_gI m 8 = nI r) (hst : ∀ (J : Int32 × Int32 × Int64 × Int32 × Int32 × z_Sg → Option (Int64 × z_Sg)) i q, i < c → z_gI q 8 = nI r → kb_Mo_shifted_14 J (nI c) (nI s) (V i) x7 (nI i) q = J (nI c, nI s, V (i + 1), x7, nI (i + 1), z_sI q 19 (b2i (W i)))) : ∃ q, k_Mo_shifted_14 (nI c) (nI s) (V 0) x7 0 m = shT c s x7 (V c) q ∧ fr [] [19] [] [] m q ∧ z_gI q 19 = b2i (W (c - 1)) := by
  have key : ∀ f i q, i ≤ c → c ≤ i + f → fr [] [19] [] [] m q → (1 ≤ i → z_gI q 19 = b2i (W (i - 1))) → ∃ q', z_lo (fun ih14 (a : Int32 × Int32 × Int64 × Int32 × Int32 × z_Sg) => kb_Mo_shifted_14 ih14 a.1 a.2.1 a.2.2.1 a.2.2.2.1 a.2.2.2.2.1 a.2.2.2.2.2) (f + 1) (nI c, nI s, V i, x7, nI i, q) = shT c s x7 (V c) q' ∧ fr [] [19] [] [] m q' ∧ z_gI q' 19 = b2i (W (c - 1)) := by
    intro f
    induction f with
    | zero =>
      intro i q h1 h2 h3 h4
      have e : i = c := by omega
      subst e
      refine ⟨q, ?_, h3, h4 hc1⟩
      show kb_Mo_shifted_14 _ (nI i) (nI s) (V i) x7 (nI i) q = _
      unfold kb_Mo_shifted_14
      rw [if_pos ((nI_cm (by omega) (by omega)).1.mpr (Nat.le_refl _)), if_neg (show ¬ z_bad (0 : Int32) 7 by decide)]
      rfl
    | succ f ih =>
      intro i q h1 h2 h3 h4
      by_cases c1 : i = c
      · subst c1
        refine ⟨q, ?_, h3, h4 hc1⟩
        show kb_Mo_shifted_14 _ (nI i) (nI s) (V i) x7 (nI i) q = _
        unfold kb_Mo_shifted_14
        rw [if_pos ((nI_cm (by omega) (by omega)).1.mpr (Nat.le_refl _)), if_neg (show ¬ z_bad (0 : Int32) 7 by decide)]
        rfl
      · have h8 : z_gI q 8 = nI r := by rw [fr_I h3 8 (by decide)]; exact hr
        obtain ⟨q', a1, a2, a3⟩ := ih (i + 1) (z_sI q 19 (b2i (W i))) (by omega) (by omega) (fr_sI h3 (by decide)) (fun _ => rfl)
        refine ⟨q', ?_, a2, a3⟩
        show kb_Mo_shifted_14 _ (nI c) (nI s) (V i) x7 (nI i) q = _
        rw [hst _ i q (by omega) h8]
        exact a1
  exact key 1999 0 m (by omega) (by omega) fr_0 (fun h => by omega)
theorem M_shT {c s r : Nat} {V : Int64} {t w : Bool} {q : z_Sg} (hc : c < 64) (h1 : 1 ≤ s) (h8 : s ≤ 8) (hr8 : r < 8) (hr : z_gI q 8 = nI r) (hw : z_gI q 19 = b2i w) : ∃ q', shT c s (b2i t) V q = some (V, q') ∧ fr [] [] [] [1] q q' ∧ fw (z_gN q' 1) = fwB (if c ≤ 8 * s ∨ r = 7 then w else tb (z_gL q 4) 0) (pF V) (tb (z_gL q 4) 4) (zF V s) (sF V s) (fb (z_gN q 1) 5) (if c = 1 then (if r = 4 then (sF V s ^^ (if c ≤ 8 * s ∨ r = 7 then w else w)) else if r = 5 then t else false) else tb (z_gL q 4) 11) := by
  have fin : ∀ (o : Bool) (q4 : z_Sg), fr [] [] [] [1] q q4 → (∀ j, ¬ j = 0 → z_gN q4 1 j = z_gN q 1 j) → ∃ q', k_Mo_shifted_162 (nI c) (nI s) V 6 (b2i o) q4 = some (V, q') ∧ fr [] [] [] [1] q q' ∧ fw (z_gN q' 1) = fwB (fb (z_gN q4 1) 0) (pF V) (tb (z_gL q 4) 4) (zF V s) (sF V s) (fb (z_gN q 1) 5) (if c = 1 then o else tb (z_gL q 4) 11) := by
    intro o q4 f4 h4
    have t174 : ∀ q5 : z_Sg, k_Mo_shifted_174 (nI s) V q5 = some (V, z_sN (z_sN (z_sN (z_sN q5 1 2 (b2i (tb (z_gL q5 4) 4))) 1 3 (b2i (zF V s))) 1 4 (b2i (sF V s))) 1 1 (b2i (pF V))) := by
      intro q5
      unfold k_Mo_shifted_174
      rw [show (2 : Int32) = nI 2 from rfl, M_leave (by decide), po_bs2, M_result V h1 h8, po_bs2]
      rfl
    have l4 : z_gL q4 4 = z_gL q 4 := fr_L f4 4 (by decide)
    unfold k_Mo_shifted_162
    rw [if_neg (show ¬ z_bad (6 : Int32) 7 by decide), po_nm2, b2i_nar]
    by_cases c1 : c = 1
    · rw [if_pos (by rw [c1]; rfl), t174, if_pos c1]
      refine ⟨_, rfl, fr_sN (fr_sN (fr_sN (fr_sN (fr_sN f4 (by decide)) (by decide)) (by decide)) (by decide)) (by decide), ?_⟩
      refine fw_of rfl (fb_b rfl) ?_ (fb_b rfl) (fb_b rfl) ?_ (fb_b rfl)
      · rw [← l4]; exact fb_b rfl
      · unfold fb
        show decide (¬ z_gN q4 1 5 = 0) = _
        rw [h4 5 (by decide)]
    · rw [if_neg (show ¬ nI c = (1 : Int32) from fun z => c1 ((nI_cm (show c ≤ 65 by omega) (show 1 ≤ 65 by omega)).2.1.mp z)), show (6 : Int32) = nI 6 from rfl, M_leave (by decide), po_bs2, t174, if_neg c1]
      refine ⟨_, rfl, fr_sN (fr_sN (fr_sN (fr_sN (fr_sN (fr_sN f4 (by decide)) (by decide)) (by decide)) (by decide)) (by decide)) (by decide), ?_⟩
      refine fw_of rfl (fb_b rfl) ?_ (fb_b rfl) (fb_b rfl) ?_ ?_
      · rw [← l4]; exact fb_b rfl
      · unfold fb
        show decide (¬ z_gN q4 1 5 = 0) = _
        rw [h4 5 (by decide)]
      · rw [← l4]; exact fb_b rfl
  have g108 : ∀ (q4 : z_Sg), fr [] [] [] [1] q q4 → (∀ j, ¬ j = 0 → z_gN q4 1 j = z_gN q 1 j) → ∃ q', k_Mo_shifted_108 (nI c) (nI s) V (b2i t) q4 = some (V, q') ∧ fr [] [] [] [1] q q' ∧ fw (z_gN q' 1) = fwB (fb (z_gN q4 1) 0) (pF V) (tb (z_gL q 4) 4) (zF V s) (sF V s) (fb (z_gN q 1) 5) (if c = 1 then (if r = 4 then (sF V s ^^ w) else if r = 5 then t else false) else tb (z_gL q 4) 11) := by
    intro q4 f4 h4
    have e8 : z_gI q4 8 = nI r := by rw [fr_I f4 8 (by decide)]; exact hr
    have e19 : z_gI q4 19 = b2i w := by rw [fr_I f4 19 (by decide)]; exact hw
    have n8 := nI_r8 hr8
    unfold k_Mo_shifted_108 k_Mo_shifted_161
    rw [e8, e19]
    by_cases c4 : r = 4
    · rw [if_pos (n8.2.2.2.2.1.mpr c4), M_top V h1 h8, po_bs2, if_pos c4]
      have e : ∀ a b : Bool, (if b2i a = b2i b then k_Mo_shifted_162 (nI c) (nI s) V 6 0 q4 else k_Mo_shifted_162 (nI c) (nI s) V 6 1 q4) = k_Mo_shifted_162 (nI c) (nI s) V 6 (b2i (a ^^ b)) q4 := by
        intro a b
        cases a <;> cases b <;> rfl
      rw [e]
      exact fin _ q4 f4 h4
    · rw [if_neg (fun z => c4 (n8.2.2.2.2.1.mp z)), if_neg c4]
      by_cases c5 : r = 5
      · rw [if_pos (n8.2.2.2.2.2.1.mpr c5), if_pos c5]
        cases t with
        | false => rw [if_pos (show b2i false = 0 from rfl)]; exact fin false q4 f4 h4
        | true => rw [if_neg (show ¬ b2i true = 0 by decide)]; exact fin true q4 f4 h4
      · rw [if_neg (fun z => c5 (n8.2.2.2.2.2.1.mp z)), if_neg c5]
        exact fin false q4 f4 h4
  unfold shT
  rw [po_nm2, hw, b2i_nar, s8_i h8, ite_self]
  have f4 : fr [] [] [] [1] q (z_sN q 1 (0 : Int32).toNatClampNeg (b2i w)) := fr_sN fr_0 (by decide)
  have h4 : ∀ j, ¬ j = 0 → z_gN (z_sN q 1 (0 : Int32).toNatClampNeg (b2i w)) 1 j = z_gN q 1 j := fun j hj => by
    show (if j = 0 then _ else z_gN q 1 j) = _
    rw [if_neg hj]
  have e8 : z_gI (z_sN q 1 (0 : Int32).toNatClampNeg (b2i w)) 8 = nI r := hr
  have b0 : fb (z_gN (z_sN q 1 (0 : Int32).toNatClampNeg (b2i w)) 1) 0 = w := fb_b rfl
  by_cases a1 : c ≤ 8 * s
  · rw [if_pos ((nI_cm (by omega) (by omega)).1.mpr a1), if_pos (Or.inl a1)]
    have := g108 _ f4 h4
    rw [b0] at this
    exact this
  · rw [if_neg (fun z => a1 ((nI_cm (by omega) (by omega)).1.mp z)), e8]
    by_cases a2 : r = 7
    · rw [if_pos ((nI_r8 hr8).2.2.2.2.2.2.2.mpr a2), if_pos (Or.inr a2)]
      have := g108 _ f4 h4
      rw [b0] at this
      exact this
    · rw [if_neg (fun z => a2 ((nI_r8 hr8).2.2.2.2.2.2.2.mp z)), if_neg (by omega), show (0 : Int32) = nI 0 from rfl, M_leave (by decide), po_bs2]
      have := g108 (z_sN (z_sN q 1 (nI 0).toNatClampNeg (b2i w)) 1 0 (b2i (tb (z_gL (z_sN q 1 (nI 0).toNatClampNeg (b2i w)) 4) (fpos 0)))) (fr_sN f4 (by decide)) (fun j hj => by
        show (if j = 0 then _ else z_gN (z_sN q 1 (nI 0).toNatClampNeg (b2i w)) 1 j) = _
        rw [if_neg hj]; exact h4 j hj)
      have b1 : fb (z_gN (z_sN (z_sN q 1 (nI 0).toNatClampNeg (b2i w)) 1 0 (b2i (tb (z_gL (z_sN q 1 (nI 0).toNatClampNeg (b2i w)) 4) (fpos 0)))) 1) 0 = tb (z_gL q 4) 0 := fb_b rfl
      rw [b1] at this
      exact this
