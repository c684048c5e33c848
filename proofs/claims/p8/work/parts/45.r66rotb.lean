theorem K_settleRotation {f : Nat → Int32} {k : z_Sg} (hf : z_gI k 0 = fw f) (l : Bool) (V x4 : Int64) {c s : Nat} (hc : c < 64) (h1 : 1 ≤ s) (h8 : s ≤ 8) : f_Ar_settleRotation (b2i l) V x4 (nI c) (nI s) k = some (z_sI k 0 (fwB (tb x4 0) (fb f 1) (fb f 2) (fb f 3) (fb f 4) (fb f 5) (if c = 1 then (sF V s ^^ (if l then tb x4 0 else tb V (8 * s - 2))) else tb (z_gL k 4) 11))) := by
  have go : ∀ t0 t1 : Int64, k_Ar_settleRotation_28 x4 (nI c) t0 t1 k = some (z_sI k 0 (fwB (tb x4 0) (fb f 1) (fb f 2) (fb f 3) (fb f 4) (fb f 5) (if c = 1 then (tb t0 0 ^^ tb t1 0) else tb (z_gL k 4) 11))) := by
    intro t0 t1
    have orr : ∀ a b : Bool, ((b2i a * (1 : Int32)) ||| (b2i b * (2048 : Int32))) = fwB a false false false false false b := by decide +kernel
    have c1 : (nI c = 1) ↔ c = 1 := (nI_cm (show c ≤ 65 by omega) (show 1 ≤ 65 by omega)).2.1
    unfold k_Ar_settleRotation_28 k_Ar_settleRotation_64 k_Ar_settleRotation_79
    rw [po_nm2, po_nm2, b0_i, b0_i, orr, tb_xor]
    by_cases a : c = 1
    · rw [if_pos (c1.mpr a), if_pos (c1.mpr a), if_pos a, K_set hf (show (2049 : Int32) = fwB true false false false false false true by decide) (show (0 : Int32) = fwB false false false false false false false by decide) rfl, po_bs2]
      simp [sel]
    · rw [if_neg (fun z => a (c1.mp z)), if_neg (fun z => a (c1.mp z)), if_neg a, K_set hf (show (1 : Int32) = fwB true false false false false false false by decide) (show (2048 : Int32) = fwB false false false false false false true by decide) rfl, po_bs2]
      simp [sel]
  unfold f_Ar_settleRotation
  rw [po_nm2, s8_i h8, show (1 : Int32) = nI 1 from rfl, show (2 : Int32) = nI 2 from rfl, nI_su (by omega) (by omega), nI_su (by omega) (by omega)]
  cases l with
  | true =>
    rw [if_neg (show ¬ b2i true = 0 by decide), go, if_pos rfl, tb_ushr V 0 (by omega), Nat.zero_add]; rfl
  | false =>
    rw [if_pos (show b2i false = 0 from rfl), go, if_neg (show ¬ (false = true) by decide), tb_ushr V 0 (by omega), tb_ushr V 0 (by omega), Nat.zero_add, Nat.zero_add]; rfl
theorem md_i {c n : Nat} (hc : c < 66) (hn : n = 8 ∨ n = 16 ∨ n = 32 ∨ n = 64 ∨ n = 9 ∨ n = 17 ∨ n = 33 ∨ n = 65) : nI c - nI c / nI n * nI n = nI (c % n) := by
  have : ∀ c, c < 66 → nI c - nI c / nI 8 * nI 8 = nI (c % 8) ∧ nI c - nI c / nI 16 * nI 16 = nI (c % 16) ∧ nI c - nI c / nI 32 * nI 32 = nI (c % 32) ∧ nI c - nI c / nI 64 * nI 64 = nI (c % 64) ∧ nI c - nI c / nI 9 * nI 9 = nI (c % 9) ∧ nI c - nI c / nI 17 * nI 17 = nI (c % 17) ∧ nI c - nI c / nI 33 * nI 33 = nI (c % 33) ∧ nI c - nI c / nI 65 * nI 65 = nI (c % 65) := by decide +kernel
  have h := this c hc
  rcases hn with rfl | rfl | rfl | rfl | rfl | rfl | rfl | rfl
  · exact h.1
  · exact h.2.1
  · exact h.2.2.1
  · exact h.2.2.2.1
  · exact h.2.2.2.2.1
  · exact h.2.2.2.2.2.1
  · exact h.2.2.2.2.2.2.1
  · exact h.2.2.2.2.2.2.2
def tuV (v : Int64) (s d : Nat) : Int64 := if d = 0 then v else ((z_lshl v (nI d)) ||| (z_lushr v (nI (8 * s - d)))) &&& mk s
theorem tb_tu {v : Int64} {s d : Nat} (h1 : 1 ≤ s) (h8 : s ≤ 8) (hv : v &&& mk s = v) (hd : d < 8 * s) (p : Nat) (hp : p < 64) : tb (tuV v s d) p = (decide (p < 8 * s) && tb v (if p < d then p + 8 * s - d else p - d)) := by
  unfold tuV
  by_cases c : p < 8 * s
  · rw [decide_eq_true c, Bool.true_and]
    by_cases c0 : d = 0
    · rw [if_pos c0, if_neg (by omega)]; congr 1; omega
    · rw [if_neg c0, tb_and, tb_mk h8 p hp, decide_eq_true c, Bool.and_true, tb_or, tb_shl v p (by omega), tb_ushr v p (by omega), decide_eq_true hp]
      by_cases c1 : p < d
      · rw [decide_eq_true c1, if_pos c1, show p + (8 * s - d) = p + 8 * s - d by omega]; simp
      · rw [decide_eq_false c1, if_neg c1, mk_hi h8 hv (p + (8 * s - d)) (by omega)]; simp
  · rw [decide_eq_false c, Bool.false_and]
    by_cases c0 : d = 0
    · rw [if_pos c0, mk_hi h8 hv p (by omega)]
    · rw [if_neg c0, tb_and, tb_mk h8 p hp, decide_eq_false c, Bool.and_false]
theorem K_rot24 {f : Nat → Int32} {k : z_Sg} (hf : z_gI k 0 = fw f) (l : Bool) (v : Int64) {c s t : Nat} (hs : s = 1 ∨ s = 2 ∨ s = 4 ∨ s = 8) (hc : c < 64) (ht : t < 66) : k_Ar_rotate_24 (b2i l) v (nI c) (nI s) (nI (8 * s)) (nI t) k = some (tuV v s (t % (8 * s)), z_sI k 0 (fwB (if l then tb (tuV v s (t % (8 * s))) 0 else sF (tuV v s (t % (8 * s))) s) (fb f 1) (fb f 2) (fb f 3) (fb f 4) (fb f 5) (if c = 1 then (sF (tuV v s (t % (8 * s))) s ^^ (if l then tb (tuV v s (t % (8 * s))) 0 else tb (tuV v s (t % (8 * s))) (8 * s - 2))) else tb (z_gL k 4) 11))) := by
  have h1 : 1 ≤ s := by omega
  have h8 : s ≤ 8 := by omega
  have go : ∀ V : Int64, k_Ar_rotate_56 (b2i l) (nI c) (nI s) (nI (8 * s)) V k = some (V, z_sI k 0 (fwB (if l then tb V 0 else sF V s) (fb f 1) (fb f 2) (fb f 3) (fb f 4) (fb f 5) (if c = 1 then (sF V s ^^ (if l then tb V 0 else tb V (8 * s - 2))) else tb (z_gL k 4) 11))) := by
    intro V
    unfold k_Ar_rotate_56 k_Ar_rotate_78
    rw [show (1 : Int32) = nI 1 from rfl, nI_su (by omega) (by omega)]
    cases l with
    | true => rw [if_neg (show ¬ b2i true = 0 by decide), K_settleRotation hf true _ _ hc h1 h8, po_bs2]; rfl
    | false =>
      rw [if_pos (show b2i false = 0 from rfl), K_settleRotation hf false _ _ hc h1 h8, po_bs2, tb_ushr V 0 (by omega), Nat.zero_add]; rfl
  have n0 : ¬ nI (8 * s) = 0 := fun z => by have := (nI_cm (show 8 * s ≤ 65 by omega) (show 0 ≤ 65 by omega)).2.1.mp z; omega
  unfold k_Ar_rotate_24
  rw [if_neg n0, po_nm2, md_i ht (by omega)]
  have hd := Nat.mod_lt t (show 0 < 8 * s by omega)
  generalize t % (8 * s) = d at *
  have z0 : (nI d = 0) ↔ d = 0 := (nI_cm (show d ≤ 65 by omega) (show 0 ≤ 65 by omega)).2.1
  by_cases c0 : d = 0
  · rw [if_pos (z0.mpr c0), go, show tuV v s d = v from if_pos c0]
  · rw [if_neg (fun z => c0 (z0.mp z)), K_maskOf h1 h8, po_bs2, nI_su (by omega) (by omega), go, show tuV v s d = ((z_lshl v (nI d)) ||| (z_lushr v (nI (8 * s - d)))) &&& mk s from if_neg c0]
theorem K_rotate {f : Nat → Int32} {k : z_Sg} (hf : z_gI k 0 = fw f) (l : Bool) {v : Int64} (C : Bool) {c s : Nat} (hs : s = 1 ∨ s = 2 ∨ s = 4 ∨ s = 8) (hc : c < 64) (hv : v &&& mk s = v) : f_Ar_rotate (b2i l) v (nI c) (nI s) k = some ((ro l false v C s c).1, z_sI k 0 (fwB (if l then tb (ro l false v C s c).1 0 else sF (ro l false v C s c).1 s) (fb f 1) (fb f 2) (fb f 3) (fb f 4) (fb f 5) (if c = 1 then (sF (ro l false v C s c).1 s ^^ (if l then tb (ro l false v C s c).1 0 else tb (ro l false v C s c).1 (8 * s - 2))) else tb (z_gL k 4) 11))) := by
  have h1 : 1 ≤ s := by omega
  have h8 : s ≤ 8 := by omega
  have n0 : ¬ nI (8 * s) = 0 := fun z => by have := (nI_cm (show 8 * s ≤ 65 by omega) (show 0 ≤ 65 by omega)).2.1.mp z; omega
  unfold f_Ar_rotate
  rw [po_nm2, s8_i h8]
  cases l with
  | true =>
    rw [if_neg (show ¬ b2i true = 0 by decide), K_rot24 hf true v hs hc (by omega)]
    have e : tuV v s (c % (8 * s)) = (ro true false v C s c).1 := by
      refine tb_ext (fun p hp => ?_)
      rw [tb_tu h1 h8 hv (Nat.mod_lt _ (by omega)) p hp, ro_l hs hv c (by omega) p hp]
      by_cases cp : p < 8 * s
      · rw [decide_eq_true cp, Bool.true_and, Bool.true_and]
        congr 1
        rcases hs with rfl | rfl | rfl | rfl <;> (split <;> omega)
      · rw [decide_eq_false cp]; rfl
    rw [e]
  | false =>
    rw [if_pos (show b2i false = 0 from rfl), if_neg n0, md_i (by omega) (by omega)]
    have hm := Nat.mod_lt c (show 0 < 8 * s by omega)
    rw [nI_su (by omega) (by omega), K_rot24 hf false v hs hc (by omega)]
    have e : tuV v s ((8 * s - c % (8 * s)) % (8 * s)) = (ro false false v C s c).1 := by
      refine tb_ext (fun p hp => ?_)
      rw [tb_tu h1 h8 hv (Nat.mod_lt _ (by omega)) p hp, ro_rt hs hv c p hp]
      by_cases cp : p < 8 * s
      · rw [decide_eq_true cp, Bool.true_and, Bool.true_and]
        congr 1
        rcases hs with rfl | rfl | rfl | rfl <;> (split <;> omega)
      · rw [decide_eq_false cp]; rfl
    rw [e]
theorem K_rtc {k : z_Sg} {v : Int64} {C l : Bool} {c s n : Nat} (h1 : 1 ≤ s) (h8 : s ≤ 8) (hv : v &&& mk s = v) (hn : n ≤ 64) : k_Ar_rotateThroughCarry_41 (b2i l) (nI c) (nI s) (nI (8 * s)) (nI n) (mk s) (bL C) v 0 k = (f_Ar_settleRotation (b2i l) (ro l true v C s n).1 (bL (ro l true v C s n).2) (nI c) (nI s) k).bind (fun r7 => some ((ro l true v C s n).1, r7)) := by
  have key : ∀ f i, i ≤ n → n ≤ i + f → z_lo (fun ih41 (a : Int32 × Int32 × Int32 × Int32 × Int32 × Int64 × Int64 × Int64 × Int32 × z_Sg) => kb_Ar_rotateThroughCarry_41 ih41 a.1 a.2.1 a.2.2.1 a.2.2.2.1 a.2.2.2.2.1 a.2.2.2.2.2.1 a.2.2.2.2.2.2.1 a.2.2.2.2.2.2.2.1 a.2.2.2.2.2.2.2.2.1 a.2.2.2.2.2.2.2.2.2) (f + 1) (b2i l, nI c, nI s, nI (8 * s), nI n, mk s, bL (ro l true v C s i).2, (ro l true v C s i).1, nI i, k) = (f_Ar_settleRotation (b2i l) (ro l true v C s n).1 (bL (ro l true v C s n).2) (nI c) (nI s) k).bind (fun r7 => some ((ro l true v C s n).1, r7)) := by
    intro f
    induction f with
    | zero =>
      intro i g1 g2
      have e : i = n := by omega
      subst e
      show kb_Ar_rotateThroughCarry_41 _ (b2i l) (nI c) (nI s) (nI (8 * s)) (nI i) (mk s) _ _ (nI i) k = _
      unfold kb_Ar_rotateThroughCarry_41
      rw [if_pos ((nI_cm (by omega) (by omega)).1.mpr (Nat.le_refl _))]
    | succ f ih =>
      intro i g1 g2
      by_cases c1 : i = n
      · subst c1
        show kb_Ar_rotateThroughCarry_41 _ (b2i l) (nI c) (nI s) (nI (8 * s)) (nI i) (mk s) _ _ (nI i) k = _
        unfold kb_Ar_rotateThroughCarry_41
        rw [if_pos ((nI_cm (by omega) (by omega)).1.mpr (Nat.le_refl _))]
      · have hk := ro_mk (l := l) (t := true) (C := C) h1 h8 hv i
        have nx := ih (i + 1) (by omega) (by omega)
        refine Eq.trans ?_ nx
        show kb_Ar_rotateThroughCarry_41 _ (b2i l) (nI c) (nI s) (nI (8 * s)) (nI n) (mk s) _ _ (nI i) k = _
        unfold kb_Ar_rotateThroughCarry_41 k_Ar_rotateThroughCarry_66 k_Ar_rotateThroughCarry_97
        rw [if_neg (fun z => by have := (nI_cm (show n ≤ 65 by omega) (show i ≤ 65 by omega)).1.mp z; omega), show nI (8 * s) - (1 : Int32) = nI (8 * s - 1) from nI_su (a := 8 * s) (b := 1) (by omega) (by omega)]
        have hR : ro l true v C s (i + 1) = if l then (lb (ro l true v C s i).1 (ro l true v C s i).2 s, sF (ro l true v C s i).1 s) else (rb (ro l true v C s i).1 (ro l true v C s i).2 s, tb (ro l true v C s i).1 0) := rfl
        rw [hR]
        generalize (ro l true v C s i).1 = V at *
        generalize (ro l true v C s i).2 = D at *
        have and1 : V &&& 1 = bL (tb V 0) := tb_ext (fun p hp => by
          rw [tb_and, tb_1, tb_bL]
          by_cases c : p = 0
          · subst c; simp
          · rw [decide_eq_false c, decide_eq_false (show ¬ p < 1 by omega)]; simp)
        have top : z_lushr V (nI (8 * s - 1)) = bL (sF V s) := tb_ext (fun p hp => by
          rw [tb_ushr V p (by omega), tb_bL]
          by_cases c : p = 0
          · subst c; rw [Nat.zero_add]; simp [sF]
          · rw [decide_eq_false c, Bool.false_and, mk_hi h8 hk _ (by omega)])
        have lv : ((z_lshl V (1 : Int32)) ||| bL D) &&& mk s = lb V D s := tb_ext (fun p hp => by
          rw [tb_lb V D h1 h8 p hp, tb_and, tb_or, tb_bL, tb_mk h8 p hp, show (1 : Int32) = nI 1 from rfl, tb_shl V p (by decide), decide_eq_true hp]
          by_cases c : p = 0
          · subst c; rw [if_pos rfl, decide_eq_true (show 0 < 1 by decide)]; simp [Bool.and_comm]
          · rw [if_neg c, decide_eq_false c, decide_eq_false (show ¬ p < 1 by omega)]; simp [Bool.and_comm])
        have rv : (z_lushr V (1 : Int32)) ||| (z_lshl (bL D) (nI (8 * s - 1))) = rb V D s := by
          unfold rb
          cases D with
          | true => rfl
          | false =>
            rw [if_neg (by decide)]
            congr 1
            refine tb_ext (fun p hp => ?_)
            show tb (z_lshl 0 _) p = _
            rw [tb_shl 0 p (by omega), tb_0, tb_0, Bool.and_false]
        cases l with
        | true =>
          rw [if_neg (show ¬ b2i true = 0 by decide), if_neg (show ¬ b2i true = 0 by decide), po_nm2, nI_S, top, lv, if_pos rfl]
        | false =>
          rw [if_pos (show b2i false = 0 from rfl), if_pos (show b2i false = 0 from rfl), po_nm2, nI_S, and1, rv, if_neg (show ¬ (false = true) by decide)]
  exact key 1999 0 (by omega) (by omega)
theorem tb_bL0 (b : Bool) : tb (bL b) 0 = b := by rw [tb_bL]; simp
theorem K_rotateThroughCarry {f : Nat → Int32} {k : z_Sg} (hf : z_gI k 0 = fw f) (l : Bool) {v : Int64} {c s : Nat} (hs : s = 1 ∨ s = 2 ∨ s = 4 ∨ s = 8) (hc : c < 64) (hv : v &&& mk s = v) : ∃ n, n = c % (8 * s + 1) ∧ f_Ar_rotateThroughCarry (b2i l) v (nI c) (nI s) k = some ((ro l true v (fb f 0) s n).1, z_sI k 0 (fwB (ro l true v (fb f 0) s n).2 (fb f 1) (fb f 2) (fb f 3) (fb f 4) (fb f 5) (if c = 1 then (sF (ro l true v (fb f 0) s n).1 s ^^ (if l then (ro l true v (fb f 0) s n).2 else tb (ro l true v (fb f 0) s n).1 (8 * s - 2))) else tb (z_gL k 4) 11))) := by
  have h1 : 1 ≤ s := by omega
  have h8 : s ≤ 8 := by omega
  refine ⟨_, rfl, ?_⟩
  have n0 : ¬ nI (8 * s + 1) = 0 := fun z => by have := (nI_cm (show 8 * s + 1 ≤ 65 by omega) (show 0 ≤ 65 by omega)).2.1.mp z; omega
  unfold f_Ar_rotateThroughCarry
  rw [po_nm2, s8_i h8, nI_S, if_neg n0, md_i (by omega) (by omega), po_nm2, K_maskOf h1 h8, po_bs2, po_nm2, hf, carry_L]
  have hm := Nat.mod_lt c (show 0 < 8 * s + 1 by omega)
  rw [K_rtc h1 h8 hv (by omega), K_settleRotation hf l _ _ hc h1 h8, po_bs2, tb_bL0]
theorem M_rotated {r s c : Nat} {v : Int64} {m : z_Sg} (hr : r < 4) (hc : c < 64) (hc32 : ¬ s = 8 → c < 32) (hs : s = 1 ∨ s = 2 ∨ s = 4 ∨ s = 8) (hm : z_gI m 8 = nI r) : f_Mo_rotated v (nI c) (nI s) m = k_Mo_rotated_51 (nI c) (nI s) (b2i (rL r)) (nI (if r ≤ 1 then c else c % (8 * s + 1))) v 0 m := by
  have h8 : s ≤ 8 := by omega
  have par : ∀ r, r < 4 → (nI r - nI r / (2 : Int32) * (2 : Int32) = 0 ↔ rL r = true) ∧ (nI r ≤ 1 ↔ r ≤ 1) := by decide +kernel
  obtain ⟨p1, p2⟩ := par r hr
  have n0 : ¬ nI (8 * s + 1) = 0 := fun z => by have := (nI_cm (show 8 * s + 1 ≤ 65 by omega) (show 0 ≤ 65 by omega)).2.1.mp z; omega
  have c4 : ((4 : Int32) ≤ nI s) ↔ 4 ≤ s := (nI_cm (show 4 ≤ 65 by omega) (show s ≤ 65 by omega)).1
  have go : ∀ x5 : Int32, k_Mo_rotated_14 v (nI c) (nI s) x5 m = k_Mo_rotated_51 (nI c) (nI s) x5 (nI (if r ≤ 1 then c else c % (8 * s + 1))) v 0 m := by
    intro x5
    unfold k_Mo_rotated_14 k_Mo_rotated_42 k_Mo_rotated_43
    rw [hm]
    by_cases a : r ≤ 1
    · rw [if_pos (p2.mpr a), if_pos a]
    · rw [if_neg (fun z => a (p2.mp z)), if_neg a]
      by_cases b : 4 ≤ s
      · rw [if_pos (c4.mpr b), Nat.mod_eq_of_lt (by omega)]
      · rw [if_neg (fun z => b (c4.mp z)), s8_i h8, nI_S, if_neg n0, md_i (by omega) (by omega)]
  unfold f_Mo_rotated
  rw [hm]
  cases e : rL r with
  | true => rw [if_pos (p1.mpr e)]; exact go 1
  | false => rw [if_neg (fun z => by rw [p1.mp z] at e; cases e)]; exact go 0
theorem rot_r {c s r : Nat} {v : Int64} {k m : z_Sg} (hf : z_gI k 0 = fw (z_gN m 1)) (hu : z_gL k 4 = z_gL m 4) (hF : FB m) (hc : c < 64) (hc32 : ¬ s = 8 → c < 32) (hs : s = 1 ∨ s = 2 ∨ s = 4 ∨ s = 8) (hv : v &&& mk s = v) (hr : r < 4) (hm : z_gI m 8 = nI r) : ∃ V k' m', (if r < 2 then f_Ar_rotate (b2i (rL r)) v (nI c) (nI s) k else f_Ar_rotateThroughCarry (b2i (rL r)) v (nI c) (nI s) k) = some (V, k') ∧ f_Mo_rotated v (nI c) (nI s) m = some (V, m') ∧ FV k m k' m' := by
  have h1 : 1 ≤ s := by omega
  have h8 : s ≤ 8 := by omega
  have hC : z_gN m 1 0 = b2i (fb (z_gN m 1) 0) := FB_b hF 0
  rw [M_rotated hr hc hc32 hs hm]
  obtain ⟨q, a1, a2⟩ := M_rol (c := c) (v := v) hr h1 h8 hm (show (if r ≤ 1 then c else c % (8 * s + 1)) ≤ 64 by
    have := Nat.mod_lt c (show 0 < 8 * s + 1 by omega)
    split <;> omega) hC
  obtain ⟨m', b1, b2, b3⟩ := M_roT (c := c) (V := (ro (rL r) (rT r) v (fb (z_gN m 1) 0) s (if r ≤ 1 then c else c % (8 * s + 1))).1) hr hc h1 h8 hm a2
  rw [a1, b1]
  by_cases a : r ≤ 1
  · rw [if_pos (show r < 2 by omega), K_rotate hf (rL r) (fb (z_gN m 1) 0) hs hc hv]
    have eT : rT r = false := decide_eq_false (by omega)
    rw [if_pos a, eT] at b3
    rw [if_pos a, eT]
    refine ⟨_, _, m', rfl, rfl, fr_sI fr_0 (by decide), b2, ?_⟩
    rw [b3, hu]
    generalize (ro (rL r) false v (fb (z_gN m 1) 0) s c).1 = V
    generalize (ro (rL r) false v (fb (z_gN m 1) 0) s c).2 = D
    have hh : r = 0 ∨ r = 1 := by omega
    rcases hh with rfl | rfl <;> rfl
  · obtain ⟨n, hn, kk⟩ := K_rotateThroughCarry hf (rL r) hs hc hv
    rw [if_neg (show ¬ r < 2 by omega), kk]
    have eT : rT r = true := decide_eq_true (by omega)
    rw [if_neg a, eT, ← hn] at b3
    rw [if_neg a, eT, ← hn]
    refine ⟨_, _, m', rfl, rfl, fr_sI fr_0 (by decide), b2, ?_⟩
    rw [b3, hu]
    generalize (ro (rL r) true v (fb (z_gN m 1) 0) s n).1 = V
    generalize (ro (rL r) true v (fb (z_gN m 1) 0) s n).2 = D
    have hh : r = 2 ∨ r = 3 := by omega
    rcases hh with rfl | rfl <;> rfl
