def FV (k m k' m' : z_Sg) : Prop := fr [] [0] [] [] k k' ∧ fr [] [19] [] [1] m m' ∧ z_gI k' 0 = fw (z_gN m' 1)
theorem b0_i (x : Int64) : (x &&& 1).toInt32 = b2i (tb x 0) := by
  have := bit_i x (show 0 < 64 by decide)
  have e : z_lushr x (nI 0) = x := tb_ext (fun i _ => by rw [tb_ushr x i (by decide), Nat.add_zero])
  rw [e] at this
  exact this
theorem K_settleShift {f : Nat → Int32} {k : z_Sg} (hf : z_gI k 0 = fw f) (V x3 x5 : Int64) {c s : Nat} (hc : c < 64) (h1 : 1 ≤ s) (h8 : s ≤ 8) : f_Ar_settleShift V x3 x5 (nI c) (nI s) k = some (z_sI k 0 (fwB (if c ≤ 8 * s then tb x3 0 else tb (z_gL k 4) 0) (pF V) (tb (z_gL k 4) 4) (zF V s) (sF V s) (fb f 5) (if c = 1 then tb x5 0 else tb (z_gL k 4) 11))) := by
  have orr : ∀ p z s a b : Bool, ((fwB false p false z s false false ||| (b2i a * (1 : Int32))) ||| (b2i b * (2048 : Int32))) = fwB a p false z s false b := by decide +kernel
  have T : ∀ a b : Bool, ((2261 : Int32) &&& ((((16 : Int32) ||| (if a then 0 else 2048)) ||| (if b then 0 else 1)) ^^^ (-1 : Int32))) = fwB b true false true true false a ∧ (((16 : Int32) ||| (if a then 0 else 2048)) ||| (if b then 0 else 1)) = fwB (!b) false true false false false (!a) := by decide +kernel
  unfold f_Ar_settleShift k_Ar_settleShift_40 k_Ar_settleShift_56
  rw [K_flagsOf V h1 h8, po_bs2, po_nm2, b0_i, b0_i, orr, s8_i h8]
  have go : ∀ a b : Bool, (f_Ar_settle ((2261 : Int32) &&& ((((16 : Int32) ||| (if a then 0 else 2048)) ||| (if b then 0 else 1)) ^^^ (-1 : Int32))) (fwB (tb x3 0) (pF V) false (zF V s) (sF V s) false (tb x5 0)) (((16 : Int32) ||| (if a then 0 else 2048)) ||| (if b then 0 else 1)) k).bind (fun r6 => some r6) = some (z_sI k 0 (fwB (if b then tb x3 0 else tb (z_gL k 4) 0) (pF V) (tb (z_gL k 4) 4) (zF V s) (sF V s) (fb f 5) (if a then tb x5 0 else tb (z_gL k 4) 11))) := by
    intro a b
    obtain ⟨t1, t2⟩ := T a b
    rw [K_set hf t1 t2 rfl, po_bs2]
    cases a <;> cases b <;> simp [sel]
  have ci := (nI_cm (show c ≤ 65 by omega) (show 8 * s ≤ 65 by omega)).1
  have c1 : (nI c = 1) ↔ c = 1 := (nI_cm (show c ≤ 65 by omega) (show 1 ≤ 65 by omega)).2.1
  by_cases a : c = 1
  · by_cases b : c ≤ 8 * s
    · rw [if_pos (c1.mpr a), if_pos (ci.mpr b), if_pos b, if_pos a]; exact go true true
    · rw [if_pos (c1.mpr a), if_neg (fun z => b (ci.mp z)), if_neg b, if_pos a]; exact go true false
  · by_cases b : c ≤ 8 * s
    · rw [if_neg (fun z => a (c1.mp z)), if_pos (ci.mpr b), if_pos b, if_neg a]; exact go false true
    · rw [if_neg (fun z => a (c1.mp z)), if_neg (fun z => b (ci.mp z)), if_neg b, if_neg a]; exact go false false
def shV (r : Nat) (v : Int64) (s i : Nat) : Int64 := if r = 4 then Lv v s i else if r = 5 then Rv v s i else Av v s i
def shW (r : Nat) (v : Int64) (s i : Nat) : Bool := if r = 4 then (!decide (8 * s - 1 < i) && tb v (8 * s - 1 - i)) else if r = 5 then tb v i else tb (sx v s) i
theorem shV_0 {r : Nat} {v : Int64} {s : Nat} (h1 : 1 ≤ s) (h8 : s ≤ 8) (hv : v &&& mk s = v) : shV r v s 0 = v := by
  unfold shV
  refine tb_ext (fun p hp => ?_)
  by_cases c4 : r = 4
  · rw [if_pos c4, tb_Lv v h8 (by decide) p hp]
    by_cases c : p < 8 * s
    · rw [decide_eq_true c]; simp
    · rw [decide_eq_false c, mk_hi h8 hv p (by omega)]; rfl
  · rw [if_neg c4]
    by_cases c5 : r = 5
    · rw [if_pos c5]; unfold Rv; rw [tb_ushr v p (by decide), Nat.add_zero]
    · rw [if_neg c5, tb_Av v h8 (by decide) p hp, Nat.add_zero, show min p 63 = p by omega]
      by_cases c : p < 8 * s
      · rw [decide_eq_true c, tb_sx v h1 h8 p hp, if_pos c]; rfl
      · rw [decide_eq_false c, mk_hi h8 hv p (by omega)]; rfl
theorem M_shifted {c s r : Nat} {v : Int64} {m : z_Sg} (hc : c < 64) (hc1 : 1 ≤ c) (h1 : 1 ≤ s) (h8 : s ≤ 8) (hv : v &&& mk s = v) (hr : r = 4 ∨ r = 5 ∨ r = 7) (hm : z_gI m 8 = nI r) : ∃ q, f_Mo_shifted v (nI c) (nI s) m = some (shV r v s c, q) ∧ fr [] [19] [] [1] m q ∧ fw (z_gN q 1) = fwB (if c ≤ 8 * s ∨ r = 7 then shW r v s (c - 1) else tb (z_gL m 4) 0) (pF (shV r v s c)) (tb (z_gL m 4) 4) (zF (shV r v s c) s) (sF (shV r v s c) s) (fb (z_gN m 1) 5) (if c = 1 then (if r = 4 then (sF (shV r v s c) s ^^ shW r v s (c - 1)) else if r = 5 then sF v s else false) else tb (z_gL m 4) 11) := by
  unfold f_Mo_shifted
  rw [M_top v h1 h8, po_bs2]
  have hst : ∀ (J : Int32 × Int32 × Int64 × Int32 × Int32 × z_Sg → Option (Int64 × z_Sg)) i q, i < c → z_gI q 8 = nI r → kb_Mo_shifted_14 J (nI c) (nI s) (shV r v s i) (b2i (sF v s)) (nI i) q = J (nI c, nI s, shV r v s (i + 1), b2i (sF v s), nI (i + 1), z_sI q 19 (b2i (shW r v s i))) := by
    intro J i q hi hq
    unfold kb_Mo_shifted_14 k_Mo_shifted_61 k_Mo_shifted_62 k_Mo_shifted_67
    rw [if_neg (fun z => by have := (nI_cm (show c ≤ 65 by omega) (show i ≤ 65 by omega)).1.mp z; omega), hq]
    rcases hr with rfl | rfl | rfl
    · rw [if_pos (show nI 4 = 4 from rfl), show (0 : Int32) = b2i false from rfl, M_leftBy _ false h1 h8, po_bs2, po_nm2, nI_S]
      unfold shV shW
      rw [if_pos rfl, if_pos rfl, if_pos rfl, Lv_S v h1 h8 (by omega)]
      unfold sF
      rw [tb_Lv v h8 (by omega) _ (by omega), decide_eq_true (show 8 * s - 1 < 8 * s by omega), Bool.true_and]
    · rw [if_neg (show ¬ nI 5 = 4 by decide), if_neg (show ¬ nI 5 = 7 by decide), show (0 : Int32) = b2i false from rfl, M_rightBy _ false h1 h8, po_bs2, po_nm2, nI_S]
      unfold shV shW
      rw [if_neg (by decide), if_pos rfl, if_neg (by decide), if_pos rfl, if_neg (by decide), if_pos rfl, Rv_S v (by omega)]
      unfold Rv
      rw [tb_ushr v 0 (by omega), Nat.zero_add]
    · rw [if_neg (show ¬ nI 7 = 4 by decide), if_pos (show nI 7 = 7 from rfl)]
      have e : ∀ b : Bool, (if b2i b = 0 then ((f_Mo_rightBy (shV 7 v s i) 0 (nI s) q).bind (fun r21 => z_nm (nI i + (1 : Int32)) (fun n22 => J (nI c, nI s, r21.1, b2i b, n22, r21.2)))) else ((f_Mo_rightBy (shV 7 v s i) 1 (nI s) q).bind (fun r21 => z_nm (nI i + (1 : Int32)) (fun n22 => J (nI c, nI s, r21.1, b2i b, n22, r21.2))))) = ((f_Mo_rightBy (shV 7 v s i) (b2i b) (nI s) q).bind (fun r21 => z_nm (nI i + (1 : Int32)) (fun n22 => J (nI c, nI s, r21.1, b2i b, n22, r21.2)))) := by
        intro b
        cases b <;> rfl
      refine (e (sF v s)).trans ?_
      rw [M_rightBy _ _ h1 h8, po_bs2, po_nm2, nI_S]
      unfold shV shW
      rw [if_neg (by decide), if_neg (by decide), if_neg (by decide), if_neg (by decide), if_neg (by decide), if_neg (by decide), Av_S v h1 h8 (by omega), tb_Av v h8 (by omega) 0 (by decide), decide_eq_true (show 0 < 8 * s by omega), Bool.true_and, Nat.zero_add, show min i 63 = i by omega]
  obtain ⟨q, a1, a2, a3⟩ := M_shl (V := shV r v s) (W := shW r v s) (s := s) (x7 := b2i (sF v s)) hc hc1 hm hst
  rw [shV_0 h1 h8 hv] at a1
  obtain ⟨q', b1, b2, b3⟩ := M_shT (c := c) (r := r) (V := shV r v s c) (t := sF v s) hc h1 h8 (by omega) (by rw [fr_I a2 8 (by decide)]; exact hm) a3
  refine ⟨q', a1.trans b1, fr_t (fr_w a2 (by decide) (by decide) (by decide) (by decide)) (fr_w b2 (by decide) (by decide) (by decide) (by decide)), ?_⟩
  rw [b3, fr_L a2 4 (by decide), fr_N a2 1 (by decide), ite_self]
theorem min_s {a b : Nat} (ha : a ≤ 64) (hb : b ≤ 64) (q : z_Sg) : f_Ma_min (nI a) (nI b) q = some (nI (min a b)) := by
  unfold f_Ma_min k_Ma_min_10
  have := (nI_cm (show b ≤ 65 by omega) (show a ≤ 65 by omega)).2.2
  by_cases c : b < a
  · rw [if_pos (this.mpr c), show min a b = b by omega]
  · rw [if_neg (fun z => c (this.mp z)), show min a b = a by omega]
theorem sh_r {c s r : Nat} {v : Int64} {k m : z_Sg} (hf : z_gI k 0 = fw (z_gN m 1)) (hu : z_gL k 4 = z_gL m 4) (hc : c < 64) (hc1 : 1 ≤ c) (h1 : 1 ≤ s) (h8 : s ≤ 8) (hv : v &&& mk s = v) (hr : r = 4 ∨ r = 5 ∨ r = 7) (hm : z_gI m 8 = nI r) : ∃ V k' m', (if nI r = 4 then f_Ar_shiftLeft v (nI c) (nI s) k else if nI r = 5 then f_Ar_shiftRight v (nI c) (nI s) k else f_Ar_shiftSigned v (nI c) (nI s) k) = some (V, k') ∧ f_Mo_shifted v (nI c) (nI s) m = some (V, m') ∧ FV k m k' m' := by
  obtain ⟨m', a1, a2, a3⟩ := M_shifted hc hc1 h1 h8 hv hr hm
  have i1 : (1 : Int32) = nI 1 := rfl
  rcases hr with rfl | rfl | rfl
  · rw [if_pos (show nI 4 = 4 from rfl)]
    unfold f_Ar_shiftLeft k_Ar_shiftLeft_34
    rw [po_nm2, s8_i h8, K_maskOf h1 h8, po_bs2, po_nm2, i1, nI_su (a := 8 * s) (b := 1) (by omega) (by omega)]
    have eV : shV 4 v s c = Lv v s c := if_pos rfl
    rw [eV] at a1 a3
    have eL : z_lshl v (nI c) &&& mk s = Lv v s c := rfl
    rw [eL]
    have go : ∀ t0 : Int64, (c ≤ 8 * s → tb t0 0 = shW 4 v s (c - 1)) → ∃ V k' m', (f_Ar_settleShift (Lv v s c) t0 ((z_lushr (Lv v s c) (nI (8 * s - 1))) ^^^ t0) (nI c) (nI s) k).bind (fun r5 => some (Lv v s c, r5)) = some (V, k') ∧ f_Mo_shifted v (nI c) (nI s) m = some (V, m') ∧ FV k m k' m' := by
      intro t0 ht
      rw [K_settleShift hf _ _ _ hc h1 h8, po_bs2]
      refine ⟨_, _, m', rfl, a1, fr_sI fr_0 (by decide), a2, ?_⟩
      rw [a3, hu]
      show fwB _ _ _ _ _ _ _ = _
      congr 1
      · by_cases b : c ≤ 8 * s
        · rw [if_pos b, if_pos (Or.inl b), ht b]
        · rw [if_neg b, if_neg (by omega)]
      · by_cases b : c = 1
        · rw [if_pos b, if_pos b, if_pos rfl, tb_xor, tb_ushr _ 0 (by omega), Nat.zero_add, ht (by omega)]; rfl
        · rw [if_neg b, if_neg b]
    by_cases b : c ≤ 8 * s
    · rw [if_pos ((nI_cm (by omega) (by omega)).1.mpr b), nI_su (by omega) b]
      refine go _ (fun _ => ?_)
      rw [tb_ushr v 0 (by omega), Nat.zero_add]
      unfold shW
      rw [if_pos rfl, decide_eq_false (show ¬ 8 * s - 1 < c - 1 by omega), show 8 * s - 1 - (c - 1) = 8 * s - c by omega]; rfl
    · rw [if_neg (fun z => b ((nI_cm (by omega) (by omega)).1.mp z))]
      exact go _ (fun z => absurd z b)
  · rw [if_neg (show ¬ nI 5 = 4 by decide), if_pos (show nI 5 = 5 from rfl)]
    unfold f_Ar_shiftRight
    rw [po_nm2, s8_i h8, i1, nI_su (by omega) (by omega), nI_su (by omega) (by omega)]
    have eV : shV 5 v s c = Rv v s c := by unfold shV; rw [if_neg (by decide), if_pos rfl]
    rw [eV] at a1 a3
    rw [show z_lushr v (nI c) = Rv v s c from rfl, K_settleShift hf _ _ _ hc h1 h8, po_bs2]
    refine ⟨_, _, m', rfl, a1, fr_sI fr_0 (by decide), a2, ?_⟩
    rw [a3, hu]
    show fwB _ _ _ _ _ _ _ = _
    have eW : shW 5 v s (c - 1) = tb v (c - 1) := by unfold shW; rw [if_neg (by decide), if_pos rfl]
    congr 1
    · by_cases b : c ≤ 8 * s
      · rw [if_pos b, if_pos (Or.inl b), tb_ushr v 0 (by omega), Nat.zero_add, eW]
      · rw [if_neg b, if_neg (by omega)]
    · by_cases b : c = 1
      · rw [if_pos b, if_pos b, if_neg (by decide), if_pos rfl, tb_ushr _ 0 (by omega), Nat.zero_add]; rfl
      · rw [if_neg b, if_neg b]
  · rw [if_neg (show ¬ nI 7 = 4 by decide), if_neg (show ¬ nI 7 = 5 by decide)]
    unfold f_Ar_shiftSigned
    rw [K_signed v h1 h8, po_bs2, K_maskOf h1 h8, po_bs2, po_nm2, s8_i h8, min_s (by omega) (by omega), po_bs2, i1, nI_su (by omega) (by omega)]
    have eV : shV 7 v s c = Av v s c := by unfold shV; rw [if_neg (by decide), if_neg (by decide)]
    rw [eV] at a1 a3
    rw [show z_lshr (sx v s) (nI c) &&& mk s = Av v s c from rfl, K_settleShift hf _ _ _ (by omega) h1 h8, po_bs2]
    refine ⟨_, _, m', rfl, a1, fr_sI fr_0 (by decide), a2, ?_⟩
    rw [a3, hu]
    show fwB _ _ _ _ _ _ _ = _
    have eW : shW 7 v s (c - 1) = tb (sx v s) (c - 1) := by unfold shW; rw [if_neg (by decide), if_neg (by decide)]
    congr 1
    · rw [if_pos (by omega), if_pos (Or.inr rfl), tb_sshr _ 0 (by omega), if_pos (by omega), Nat.zero_add, eW]; rfl
    · by_cases b : c = 1
      · rw [if_pos (by omega), if_pos b, if_neg (by decide), if_neg (by decide), tb_0]
      · rw [if_neg (by omega), if_neg b]
