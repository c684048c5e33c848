def ro (l t : Bool) (v : Int64) (C : Bool) (s : Nat) : Nat → Int64 × Bool
  | 0 => (v, C)
  | i + 1 => if l then (lb (ro l t v C s i).1 (if t then (ro l t v C s i).2 else sF (ro l t v C s i).1 s) s, if t then sF (ro l t v C s i).1 s else (ro l t v C s i).2) else (rb (ro l t v C s i).1 (if t then (ro l t v C s i).2 else tb (ro l t v C s i).1 0) s, if t then tb (ro l t v C s i).1 0 else (ro l t v C s i).2)
theorem ro_mk {l t : Bool} {v : Int64} {C : Bool} {s : Nat} (h1 : 1 ≤ s) (h8 : s ≤ 8) (hv : v &&& mk s = v) (i : Nat) : (ro l t v C s i).1 &&& mk s = (ro l t v C s i).1 := by
  have hi : ∀ V : Int64, (∀ p, p < 64 → 8 * s ≤ p → tb V p = false) → V &&& mk s = V := by
    intro V h
    refine tb_ext (fun p hp => ?_)
    rw [tb_and, tb_mk h8 p hp]
    by_cases c : p < 8 * s
    · rw [decide_eq_true c, Bool.and_true]
    · rw [decide_eq_false c, Bool.and_false, h p hp (by omega)]
  induction i with
  | zero => exact hv
  | succ i ih =>
    refine hi _ (fun p hp h => ?_)
    unfold ro
    cases l with
    | true =>
      rw [if_pos rfl]
      show tb (lb _ _ s) p = false
      rw [tb_lb _ _ h1 h8 p hp, decide_eq_false (by omega), Bool.false_and]
    | false =>
      rw [if_neg (by decide)]
      show tb (rb _ _ s) p = false
      rw [tb_rb _ _ h1 h8 p, mk_hi h8 ih _ (by omega), decide_eq_false (by omega)]; rfl
theorem ro_l {v : Int64} {C : Bool} {s : Nat} (hs : s = 1 ∨ s = 2 ∨ s = 4 ∨ s = 8) (hv : v &&& mk s = v) (i : Nat) (hi : i ≤ 64) (p : Nat) (hp : p < 64) : tb (ro true false v C s i).1 p = (decide (p < 8 * s) && tb v ((p + 64 * (8 * s) - i) % (8 * s))) := by
  have h1 : 1 ≤ s := by omega
  have h8 : s ≤ 8 := by omega
  induction i generalizing p with
  | zero =>
    show tb v p = _
    by_cases c : p < 8 * s
    · rw [decide_eq_true c, Bool.true_and]
      congr 1
      rcases hs with rfl | rfl | rfl | rfl <;> omega
    · rw [decide_eq_false c, mk_hi h8 hv p (by omega)]; rfl
  | succ i ih =>
    unfold ro
    rw [if_pos rfl]
    show tb (lb _ _ s) p = _
    rw [tb_lb _ _ h1 h8 p hp, if_neg (show ¬ (false = true) by decide)]
    by_cases c : p < 8 * s
    · rw [decide_eq_true c, Bool.true_and, Bool.true_and]
      by_cases c0 : p = 0
      · rw [if_pos c0]
        unfold sF
        rw [ih (by omega) _ (by omega), decide_eq_true (by omega), Bool.true_and]
        congr 1
        rcases hs with rfl | rfl | rfl | rfl <;> omega
      · rw [if_neg c0, ih (by omega) _ (by omega), decide_eq_true (by omega), Bool.true_and]
        congr 1
        rcases hs with rfl | rfl | rfl | rfl <;> omega
    · rw [decide_eq_false c]; rfl
theorem ro_rt {v : Int64} {C : Bool} {s : Nat} (hs : s = 1 ∨ s = 2 ∨ s = 4 ∨ s = 8) (hv : v &&& mk s = v) (i : Nat) (p : Nat) (hp : p < 64) : tb (ro false false v C s i).1 p = (decide (p < 8 * s) && tb v ((p + i) % (8 * s))) := by
  have h1 : 1 ≤ s := by omega
  have h8 : s ≤ 8 := by omega
  induction i generalizing p with
  | zero =>
    show tb v p = _
    by_cases c : p < 8 * s
    · rw [decide_eq_true c, Bool.true_and]
      congr 1
      rcases hs with rfl | rfl | rfl | rfl <;> omega
    · rw [decide_eq_false c, mk_hi h8 hv p (by omega)]; rfl
  | succ i ih =>
    have hk := ro_mk (l := false) (t := false) (C := C) h1 h8 hv i
    unfold ro
    rw [if_neg (by decide)]
    show tb (rb _ _ s) p = _
    rw [tb_rb _ _ h1 h8 p, if_neg (by decide)]
    by_cases c : p < 8 * s
    · rw [decide_eq_true c, Bool.true_and]
      by_cases c0 : p = 8 * s - 1
      · rw [mk_hi h8 hk (p + 1) (by omega), decide_eq_true c0, Bool.false_or, Bool.true_and, ih 0 (by omega), decide_eq_true (by omega), Bool.true_and]
        congr 1
        rcases hs with rfl | rfl | rfl | rfl <;> omega
      · rw [decide_eq_false c0, Bool.false_and, Bool.or_false, ih _ (by omega), decide_eq_true (by omega), Bool.true_and]
        congr 1
        rcases hs with rfl | rfl | rfl | rfl <;> omega
    · rw [decide_eq_false c, mk_hi h8 hk (p + 1) (by omega), decide_eq_false (by omega)]; rfl
def rL (r : Nat) : Bool := decide (r = 0 ∨ r = 2)
def rT (r : Nat) : Bool := decide (2 ≤ r)
def IV (m q : z_Sg) (C : Bool) : Prop := fr [] [19] [] [1] m q ∧ (∀ j, ¬ j = 0 → z_gN q 1 j = z_gN m 1 j) ∧ z_gN q 1 0 = b2i C
theorem M_rst {r s c n : Nat} {v : Int64} {C : Bool} {m q : z_Sg} (hr : r < 4) (h1 : 1 ≤ s) (h8 : s ≤ 8) (hm : z_gI m 8 = nI r) (hn : n ≤ 64) (i : Nat) (hi : i < n) (hI : IV m q (ro (rL r) (rT r) v C s i).2) (J : Int32 × Int32 × Int32 × Int32 × Int64 × Int32 × z_Sg → Option (Int64 × z_Sg)) : ∃ q', kb_Mo_rotated_51 J (nI c) (nI s) (b2i (rL r)) (nI n) (ro (rL r) (rT r) v C s i).1 (nI i) q = J (nI c, nI s, b2i (rL r), nI n, (ro (rL r) (rT r) v C s (i + 1)).1, nI (i + 1), q') ∧ IV m q' (ro (rL r) (rT r) v C s (i + 1)).2 := by
  obtain ⟨f1, f2, f3⟩ := hI
  have e8 : z_gI q 8 = nI r := by rw [fr_I f1 8 (by decide)]; exact hm
  have hR : (ro (rL r) (rT r) v C s (i + 1)) = if rL r then (lb (ro (rL r) (rT r) v C s i).1 (if rT r then (ro (rL r) (rT r) v C s i).2 else sF (ro (rL r) (rT r) v C s i).1 s) s, if rT r then sF (ro (rL r) (rT r) v C s i).1 s else (ro (rL r) (rT r) v C s i).2) else (rb (ro (rL r) (rT r) v C s i).1 (if rT r then (ro (rL r) (rT r) v C s i).2 else tb (ro (rL r) (rT r) v C s i).1 0) s, if rT r then tb (ro (rL r) (rT r) v C s i).1 0 else (ro (rL r) (rT r) v C s i).2) := rfl
  rw [hR]
  generalize (ro (rL r) (rT r) v C s i).1 = V at *
  generalize hC : (ro (rL r) (rT r) v C s i).2 = D at *
  have nle : ¬ nI n ≤ nI i := fun z => by have := (nI_cm (show n ≤ 65 by omega) (show i ≤ 65 by omega)).1.mp z; omega
  have iv19 : ∀ b : Bool, IV m (z_sI q 19 (b2i b)) D := fun b => ⟨fr_sI f1 (by decide), f2, f3⟩
  have ivN : ∀ b : Bool, IV m (z_sN (z_sI q 19 (b2i b)) 1 (0 : Int32).toNatClampNeg (b2i b)) b := fun b => ⟨fr_sN (fr_sI f1 (by decide)) (by decide), fun j hj => by
    show (if j = 0 then _ else z_gN q 1 j) = _
    rw [if_neg hj]; exact f2 j hj, rfl⟩
  unfold kb_Mo_rotated_51 k_Mo_rotated_104 k_Mo_rotated_134 k_Mo_rotated_154
  rw [if_neg nle, e8]
  have h4 : r = 0 ∨ r = 1 ∨ r = 2 ∨ r = 3 := by omega
  rcases h4 with rfl | rfl | rfl | rfl
  · rw [if_pos (show nI 0 ≤ 1 by decide), if_neg (show ¬ b2i (rL 0) = 0 by decide), M_top V h1 h8, po_bs2, if_neg (show ¬ b2i (rL 0) = 0 by decide), M_leftBy V _ h1 h8, po_bs2]
    rw [if_pos (show z_gI (z_sI q 19 (b2i (sF V s))) 8 ≤ 1 by show z_gI q 8 ≤ 1; rw [e8]; decide), po_nm2, nI_S]
    exact ⟨_, rfl, iv19 _⟩
  · rw [if_pos (show nI 1 ≤ 1 by decide), if_pos (show b2i (rL 1) = 0 by decide), if_pos (show b2i (rL 1) = 0 by decide), if_pos (show b2i (rL 1) = 0 by decide)]
    have e : ∀ b : Bool, tb V 0 = b → ∃ q', (f_Mo_rightBy V (b2i b) (nI s) q).bind (fun r25 => if (z_gI r25.2 8) ≤ (1 : Int32) then (z_nm (nI i + (1 : Int32)) (fun n27 => J (nI c, nI s, b2i (rL 1), nI n, r25.1, n27, r25.2))) else (if z_bad (0 : Int32) 7 then none else (z_nm (z_sN r25.2 1 (0 : Int32).toNatClampNeg (vp_nar .boolean (z_gI r25.2 19))) (fun q29 => (z_nm (nI i + (1 : Int32)) (fun n27 => J (nI c, nI s, b2i (rL 1), nI n, r25.1, n27, q29))))))) = J (nI c, nI s, b2i (rL 1), nI n, rb V (tb V 0) s, nI (i + 1), q') ∧ IV m q' D := by
      intro b hb
      rw [M_rightBy V _ h1 h8, po_bs2]
      rw [if_pos (show z_gI (z_sI q 19 (b2i (tb V 0))) 8 ≤ 1 by show z_gI q 8 ≤ 1; rw [e8]; decide), po_nm2, nI_S, ← hb]
      exact ⟨_, rfl, iv19 _⟩
    cases hb : tb V 0 with
    | true => rw [if_pos ((bit0_1 V).mpr hb)]; have := e true hb; rw [hb] at this; exact this
    | false => rw [if_neg (fun z => by rw [(bit0_1 V).mp z] at hb; cases hb)]; have := e false hb; rw [hb] at this; exact this
  · rw [if_neg (show ¬ nI 2 ≤ 1 by decide), if_neg (show ¬ z_bad (0 : Int32) 7 by decide), show z_gN q 1 (0 : Int32).toNatClampNeg = b2i D from f3, if_neg (show ¬ b2i (rL 2) = 0 by decide), M_leftBy V _ h1 h8, po_bs2]
    rw [if_neg (show ¬ z_gI (z_sI q 19 (b2i (sF V s))) 8 ≤ 1 by show ¬ z_gI q 8 ≤ 1; rw [e8]; decide), if_neg (show ¬ z_bad (0 : Int32) 7 by decide), po_nm2, po_nm2, nI_S, show z_gI (z_sI q 19 (b2i (sF V s))) 19 = b2i (sF V s) from rfl, b2i_nar]
    exact ⟨_, rfl, ivN _⟩
  · rw [if_neg (show ¬ nI 3 ≤ 1 by decide), if_neg (show ¬ z_bad (0 : Int32) 7 by decide), show z_gN q 1 (0 : Int32).toNatClampNeg = b2i D from f3, if_pos (show b2i (rL 3) = 0 by decide), M_rightBy V _ h1 h8, po_bs2]
    rw [if_neg (show ¬ z_gI (z_sI q 19 (b2i (tb V 0))) 8 ≤ 1 by show ¬ z_gI q 8 ≤ 1; rw [e8]; decide), if_neg (show ¬ z_bad (0 : Int32) 7 by decide), po_nm2, po_nm2, nI_S, show z_gI (z_sI q 19 (b2i (tb V 0))) 19 = b2i (tb V 0) from rfl, b2i_nar]
    exact ⟨_, rfl, ivN _⟩
def roT (c s r : Nat) (V : Int64) (q : z_Sg) : Option (Int64 × z_Sg) :=
  if (z_gI q 8) = 0 then (if (V &&& (1 : Int64)) = (1 : Int64) then (k_Mo_rotated_186 (nI c) (nI s) (b2i (rL r)) V (0 : Int32) (1 : Int32) q) else (k_Mo_rotated_186 (nI c) (nI s) (b2i (rL r)) V (0 : Int32) (0 : Int32) q)) else (k_Mo_rotated_187 (nI c) (nI s) (b2i (rL r)) V q)
theorem M_rol {r s c n : Nat} {v : Int64} {C : Bool} {m : z_Sg} (hr : r < 4) (h1 : 1 ≤ s) (h8 : s ≤ 8) (hm : z_gI m 8 = nI r) (hn : n ≤ 64) (hC : z_gN m 1 0 = b2i C) : ∃ q, k_Mo_rotated_51 (nI c) (nI s) (b2i (rL r)) (nI n) v 0 m = roT c s r (ro (rL r) (rT r) v C s n).1 q ∧ IV m q (ro (rL r) (rT r) v C s n).2 := by
  have key : ∀ f i q, i ≤ n → n ≤ i + f → IV m q (ro (rL r) (rT r) v C s i).2 → ∃ q', z_lo (fun ih51 (a : Int32 × Int32 × Int32 × Int32 × Int64 × Int32 × z_Sg) => kb_Mo_rotated_51 ih51 a.1 a.2.1 a.2.2.1 a.2.2.2.1 a.2.2.2.2.1 a.2.2.2.2.2.1 a.2.2.2.2.2.2) (f + 1) (nI c, nI s, b2i (rL r), nI n, (ro (rL r) (rT r) v C s i).1, nI i, q) = roT c s r (ro (rL r) (rT r) v C s n).1 q' ∧ IV m q' (ro (rL r) (rT r) v C s n).2 := by
    intro f
    induction f with
    | zero =>
      intro i q g1 g2 g3
      have e : i = n := by omega
      subst e
      refine ⟨q, ?_, g3⟩
      show kb_Mo_rotated_51 _ (nI c) (nI s) (b2i (rL r)) (nI i) (ro (rL r) (rT r) v C s i).1 (nI i) q = _
      unfold kb_Mo_rotated_51
      rw [if_pos ((nI_cm (by omega) (by omega)).1.mpr (Nat.le_refl _))]
      rfl
    | succ f ih =>
      intro i q g1 g2 g3
      by_cases c1 : i = n
      · subst c1
        refine ⟨q, ?_, g3⟩
        show kb_Mo_rotated_51 _ (nI c) (nI s) (b2i (rL r)) (nI i) (ro (rL r) (rT r) v C s i).1 (nI i) q = _
        unfold kb_Mo_rotated_51
        rw [if_pos ((nI_cm (by omega) (by omega)).1.mpr (Nat.le_refl _))]
        rfl
      · obtain ⟨q1, a1, a2⟩ := M_rst (c := c) hr h1 h8 hm hn i (by omega) g3 (z_lo (fun ih51 (a : Int32 × Int32 × Int32 × Int32 × Int64 × Int32 × z_Sg) => kb_Mo_rotated_51 ih51 a.1 a.2.1 a.2.2.1 a.2.2.2.1 a.2.2.2.2.1 a.2.2.2.2.2.1 a.2.2.2.2.2.2) (f + 1))
        obtain ⟨q', b1, b2⟩ := ih (i + 1) q1 (by omega) (by omega) a2
        exact ⟨q', a1.trans b1, b2⟩
  exact key 1999 0 m (by omega) (by omega) ⟨fr_0, fun _ _ => rfl, hC⟩
theorem M_roT {r s c : Nat} {V : Int64} {D : Bool} {m q : z_Sg} (hr : r < 4) (hc : c < 64) (h1 : 1 ≤ s) (h8 : s ≤ 8) (hm : z_gI m 8 = nI r) (hI : IV m q D) : ∃ q', roT c s r V q = some (V, q') ∧ fr [] [19] [] [1] m q' ∧ fw (z_gN q' 1) = fwB (if r = 0 then tb V 0 else if r = 1 then sF V s else D) (fb (z_gN m 1) 1) (fb (z_gN m 1) 2) (fb (z_gN m 1) 3) (fb (z_gN m 1) 4) (fb (z_gN m 1) 5) (if c = 1 then (sF V s ^^ (if rL r then (if r = 0 then tb V 0 else D) else tb V (8 * s - 2))) else tb (z_gL m 4) 11) := by
  have t269 : ∀ (o E : Bool) (q4 : z_Sg), IV m q4 E → ∃ q', k_Mo_rotated_269 (nI c) V 6 (b2i o) q4 = some (V, q') ∧ fr [] [19] [] [1] m q' ∧ fw (z_gN q' 1) = fwB E (fb (z_gN m 1) 1) (fb (z_gN m 1) 2) (fb (z_gN m 1) 3) (fb (z_gN m 1) 4) (fb (z_gN m 1) 5) (if c = 1 then o else tb (z_gL m 4) 11) := by
    intro o E q4 hq
    obtain ⟨f1, f2, f3⟩ := hq
    have l4 : z_gL q4 4 = z_gL m 4 := fr_L f1 4 (by decide)
    have fbj : ∀ j, ¬ j = 0 → fb (z_gN q4 1) j = fb (z_gN m 1) j := fun j hj => by unfold fb; rw [f2 j hj]
    unfold k_Mo_rotated_269 k_Mo_rotated_281
    rw [if_neg (show ¬ z_bad (6 : Int32) 7 by decide), po_nm2, b2i_nar]
    by_cases c1 : c = 1
    · rw [if_pos (by rw [c1]; rfl), if_pos c1]
      refine ⟨_, rfl, fr_sN f1 (by decide), ?_⟩
      exact fw_of (fb_b f3) (fbj 1 (by decide)) (fbj 2 (by decide)) (fbj 3 (by decide)) (fbj 4 (by decide)) (fbj 5 (by decide)) (fb_b rfl)
    · rw [if_neg (show ¬ nI c = (1 : Int32) from fun z => c1 ((nI_cm (show c ≤ 65 by omega) (show 1 ≤ 65 by omega)).2.1.mp z)), show (6 : Int32) = nI 6 from rfl, M_leave (by decide), po_bs2, if_neg c1]
      refine ⟨_, rfl, fr_sN (fr_sN f1 (by decide)) (by decide), ?_⟩
      refine fw_of (fb_b f3) (fbj 1 (by decide)) (fbj 2 (by decide)) (fbj 3 (by decide)) (fbj 4 (by decide)) (fbj 5 (by decide)) ?_
      rw [← l4]; exact fb_b rfl
  have t261 : ∀ (a b E : Bool) (q4 : z_Sg), IV m q4 E → ∃ q', k_Mo_rotated_261 (nI c) V 6 (b2i a) (b2i b) q4 = some (V, q') ∧ fr [] [19] [] [1] m q' ∧ fw (z_gN q' 1) = fwB E (fb (z_gN m 1) 1) (fb (z_gN m 1) 2) (fb (z_gN m 1) 3) (fb (z_gN m 1) 4) (fb (z_gN m 1) 5) (if c = 1 then (a ^^ b) else tb (z_gL m 4) 11) := by
    intro a b E q4 hq
    have e : k_Mo_rotated_261 (nI c) V 6 (b2i a) (b2i b) q4 = k_Mo_rotated_269 (nI c) V 6 (b2i (a ^^ b)) q4 := by
      unfold k_Mo_rotated_261
      cases a <;> cases b <;> rfl
    rw [e]
    exact t269 _ E q4 hq
  have t208 : ∀ (E : Bool) (q4 : z_Sg), IV m q4 E → ∃ q', k_Mo_rotated_208 (nI c) (nI s) (b2i (rL r)) V q4 = some (V, q') ∧ fr [] [19] [] [1] m q' ∧ fw (z_gN q' 1) = fwB E (fb (z_gN m 1) 1) (fb (z_gN m 1) 2) (fb (z_gN m 1) 3) (fb (z_gN m 1) 4) (fb (z_gN m 1) 5) (if c = 1 then (sF V s ^^ (if rL r then E else tb V (8 * s - 2))) else tb (z_gL m 4) 11) := by
    intro E q4 hq
    have e : k_Mo_rotated_208 (nI c) (nI s) (b2i (rL r)) V q4 = k_Mo_rotated_230 (nI c) (nI s) (b2i (rL r)) V (b2i (tb V (8 * s - 2))) q4 := by
      unfold k_Mo_rotated_208
      rw [s8_i h8, show (2 : Int32) = nI 2 from rfl, nI_su (by omega) (by omega)]
      cases b : tb V (8 * s - 2) with
      | true => rw [if_pos ((tb_bit1 V (by omega)).mpr b)]; rfl
      | false => rw [if_neg (fun z => by rw [(tb_bit1 V (by omega)).mp z] at b; cases b)]; rfl
    rw [e]
    unfold k_Mo_rotated_230
    rw [M_top V h1 h8, po_bs2, if_neg (show ¬ z_bad (0 : Int32) 7 by decide), show z_gN q4 1 (0 : Int32).toNatClampNeg = b2i E from hq.2.2]
    cases rL r with
    | true => rw [if_neg (show ¬ b2i true = 0 by decide), if_pos rfl]; exact t261 _ _ E q4 hq
    | false => rw [if_pos (show b2i false = 0 from rfl), if_neg (show ¬ (false = true) by decide)]; exact t261 _ _ E q4 hq
  have e8 : z_gI q 8 = nI r := by rw [fr_I hI.1 8 (by decide)]; exact hm
  have ivN : ∀ b : Bool, IV m (z_sN q 1 (0 : Int32).toNatClampNeg (b2i b)) b := fun b => ⟨fr_sN hI.1 (by decide), fun j hj => by
    show (if j = 0 then _ else z_gN q 1 j) = _
    rw [if_neg hj]; exact hI.2.1 j hj, rfl⟩
  have n8 := nI_r8 (show r < 8 by omega)
  unfold roT
  rw [e8]
  by_cases c0 : r = 0
  · rw [if_pos (n8.1.mpr c0), if_pos c0, if_pos c0]
    have e : ∀ b : Bool, k_Mo_rotated_186 (nI c) (nI s) (b2i (rL r)) V (0 : Int32) (b2i b) q = k_Mo_rotated_208 (nI c) (nI s) (b2i (rL r)) V (z_sN q 1 (0 : Int32).toNatClampNeg (b2i b)) := by
      intro b
      unfold k_Mo_rotated_186 k_Mo_rotated_187
      rw [if_neg (show ¬ z_bad (0 : Int32) 7 by decide), po_nm2, b2i_nar, if_neg (show ¬ z_gI (z_sN q 1 (0 : Int32).toNatClampNeg (b2i b)) 8 = 1 by show ¬ z_gI q 8 = 1; rw [e8, c0]; decide)]
    have go := t208 (tb V 0) _ (ivN (tb V 0))
    rw [← e] at go
    cases b : tb V 0 with
    | true => rw [if_pos ((bit0_1 V).mpr b)]; rw [b] at go; exact go
    | false => rw [if_neg (fun z => by rw [(bit0_1 V).mp z] at b; cases b)]; rw [b] at go; exact go
  · rw [if_neg (fun z => c0 (n8.1.mp z)), if_neg c0, if_neg c0]
    unfold k_Mo_rotated_187
    rw [e8]
    by_cases c1 : r = 1
    · rw [if_pos (n8.2.1.mpr c1), if_pos c1, M_top V h1 h8, po_bs2, if_neg (show ¬ z_bad (0 : Int32) 7 by decide), po_nm2, b2i_nar]
      have := t208 (sF V s) _ (ivN (sF V s))
      have eL : rL r = false := by rw [c1]; rfl
      rw [eL, if_neg (show ¬ (false = true) by decide)] at this
      rw [eL, if_neg (show ¬ (false = true) by decide)]
      exact this
    · rw [if_neg (fun z => c1 (n8.2.1.mp z)), if_neg c1]
      exact t208 D q hI
