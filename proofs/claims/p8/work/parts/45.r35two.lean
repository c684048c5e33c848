theorem tw_n {n : Nat} (hn : n < 512) (h2 : 256 ≤ n) : nI n - (256 : Int32) = nI (n - 256) := by
  have : ∀ n, n < 512 → 256 ≤ n → nI n - (256 : Int32) = nI (n - 256) := by decide +kernel
  exact this n hn h2
def twE (n : Nat) : Bool := !(decide (n / 16 = 20)) && !(decide (n / 16 = 25)) && !(decide (n / 8 = 57))
theorem tw_s {k : z_Sg} {n : Nat} (hn : n < 512) (h2 : 256 ≤ n) (h : twE n = true) (ho : z_gI k 11 = nI n) : f_Tw_execute k = (f_Tw_executeSingle (nI (n - 256)) k).bind k_Tw_execute_121 := by
  have c : ∀ n, n < 512 → 256 ≤ n → twE n = true → ¬ (nI (n - 256) &&& (-8 : Int32)) = 64 ∧ ¬ (nI (n - 256) &&& (-8 : Int32)) = 72 ∧ ¬ (nI (n - 256) &&& (-8 : Int32)) = 144 ∧ ¬ (nI (n - 256) &&& (-8 : Int32)) = 152 ∧ ¬ (nI (n - 256) &&& (-8 : Int32)) = 200 := by decide +kernel
  obtain ⟨c1, c2, c3, c4, c5⟩ := c n hn h2 h
  unfold f_Tw_execute
  rw [po_nm2, ho, tw_n hn h2, if_neg c1, if_neg c2, if_neg c3, if_neg c4, if_neg c5]
theorem fin2 {k0 k m : z_Sg} (h : EQ k m) : z_r k0 ((k_Tw_execute_121 k).bind S3) (some (.inr m)) FQQ := fin h
theorem szV_8 (rex small : Int32) : 1 ≤ szV rex small ∧ szV rex small ≤ 8 := by rcases szV_in rex small with h | h | h <;> omega
theorem g_63 {k0 k m : z_Sg} (h : TQ (nI 99) k0 k m) : z_r k0 ((k_De_decode_43 (-1) 2 k).bind S1) (e_f_Mo_extend (nI (szV (z_gI m 10) (z_gI m 16))) (nI (z4 (z_gI m 10) (z_gI m 16))) m) FQQ := by
  have hz := z4_in (z_gI m 10) (z_gI m 16)
  refine g_ext (by decide) (by decide) (by decide) (by omega) (by omega) (szV_8 _ _).1 (szV_8 _ _).2 h (fun k' e e6 e5 => ?_) (fun k' e => ?_) (fun k' v e e6 e5 hv h15 y hy => ?_)
  · unfold f_Op_bytesOfE
    rw [e, if_pos (show nI 99 = 99 from rfl), K_sizeV, po_bs2, min_4 (szV_in _ _), po_bs2, e6, e5]; rfl
  · unfold f_Op_isWritten
    rw [e]; rfl
  · refine ex_1 (n := 99) (by decide) (by decide) (by decide) e ?_
    rw [on_215 (n := 99) (by decide) (by decide) e, e6, e5]
    have ee : ∀ x, f_On_executeSingle x k' = ((f_Op_value k').bind (fun r2 => (f_Ar_signed r2 (z_gI k' 15) k').bind (fun r3 => (f_Op_putG r3 x k').bind (fun r4 => k_On_move_327 r4)))).bind k_On_executeSingle_432 := by
      intro x
      unfold f_On_executeSingle f_On_move
      rw [e]; rfl
    rw [ee, hv, po_bs2, h15, K_signed _ (by omega) (by omega), po_bs2]
    have e1 : szO 99 (z_gI m 10) (z_gI m 16) = szV (z_gI m 10) (z_gI m 16) := rfl
    rw [e1]
    have e2 : ∀ x : Option z_Sg, (x.bind (fun r4 => k_On_move_327 r4)).bind k_On_executeSingle_432 = x := by intro x; cases x <;> rfl
    rw [e2]
    exact hy
theorem g_be {k0 k m : z_Sg} {n f : Nat} (hc : (n = 446 ∧ f = 1) ∨ (n = 447 ∧ f = 2)) (h : TQ (nI n) k0 k m) : z_r k0 ((k_De_decode_43 (-1) 2 k).bind S1) (e_f_Mo_extend (nI (szV (z_gI m 10) (z_gI m 16))) (nI f) m) FQQ := by
  have hz := szV_8 (z_gI m 10) (z_gI m 16)
  have gen : ∀ n f, (n = 446 ∧ f = 1) ∨ (n = 447 ∧ f = 2) → n < 512 ∧ 256 ≤ n ∧ oE n = true ∧ eE n = true ∧ flE n = true ∧ twE n = true ∧ 1 ≤ f ∧ f ≤ 8 := by
    rintro n f (⟨rfl, rfl⟩ | ⟨rfl, rfl⟩) <;> decide
  obtain ⟨n1, n2, n3, n4, n5, n6, n7, n8⟩ := gen n f hc
  refine g_ext n1 n3 n4 n7 n8 hz.1 hz.2 h (fun k' e e6 e5 => ?_) (fun k' e => ?_) (fun k' v e e6 e5 hv h15 y hy => ?_)
  · rcases hc with ⟨rfl, rfl⟩ | ⟨rfl, rfl⟩ <;> (unfold f_Op_bytesOfE; rw [e]; rfl)
  · rcases hc with ⟨rfl, rfl⟩ | ⟨rfl, rfl⟩ <;> (unfold f_Op_isWritten; rw [e]; rfl)
  · refine ex_2 n2 n1 n5 e ?_
    rw [tw_s n1 n2 n6 e]
    have ee : f_Tw_executeSingle (nI (n - 256)) k' = (f_De_sizeV k').bind (fun r1 => k_Tw_executeSingle_258 r1 k') := by
      rcases hc with ⟨rfl, rfl⟩ | ⟨rfl, rfl⟩ <;> rfl
    rw [ee, K_sizeV, po_bs2, e6, e5]
    unfold k_Tw_executeSingle_258
    rw [hv, po_bs2, h15, K_signed _ n7 n8, po_bs2]
    have e2 : ∀ x : Option z_Sg, ((x.bind (fun r47 => k_Tw_executeSingle_320 r47)).bind k_Tw_execute_121).bind S3 = (x.bind k_On_execute_223).bind S3 := by intro x; cases x <;> rfl
    rw [e2]
    exact hy
theorem g_b6 {k0 k m : z_Sg} {n f : Nat} (hc : (n = 438 ∧ f = 1) ∨ (n = 439 ∧ f = 2)) (h : TQ (nI n) k0 k m) : z_r k0 ((k_De_decode_43 (-1) 2 k).bind S1) (e_k_Mo_second_283 (nI (n - 256)) m) FQQ := by
  have gen : ∀ n f, (n = 438 ∧ f = 1) ∨ (n = 439 ∧ f = 2) → n < 512 ∧ 256 ≤ n ∧ oE n = true ∧ eE n = true ∧ flE n = true ∧ twE n = true ∧ 1 ≤ f ∧ f ≤ 8 := by
    rintro n f (⟨rfl, rfl⟩ | ⟨rfl, rfl⟩) <;> decide
  obtain ⟨n1, n2, n3, n4, n5, n6, n7, n8⟩ := gen n f hc
  unfold e_k_Mo_second_283
  refine run_o n1 n3 h (fun k2 m1 hq g6 g5 e10 e16 => ?_)
  have hz := szV_8 (z_gI m 10) (z_gI m 16)
  rw [M_wide, po_bs2, e10, e16]
  have e0 : (if nI (n - 256) = (182 : Int32) then (e_k_Mo_second_305 (nI (szV (z_gI m 10) (z_gI m 16))) (1 : Int32) m1) else (e_k_Mo_second_305 (nI (szV (z_gI m 10) (z_gI m 16))) (2 : Int32) m1)) = e_k_Mo_second_305 (nI (szV (z_gI m 10) (z_gI m 16))) (nI f) m1 := by
    rcases hc with ⟨rfl, rfl⟩ | ⟨rfl, rfl⟩ <;> rfl
  rw [e0]
  unfold e_k_Mo_second_305
  refine run_e n1 n4 hq (Or.inl rfl) n7 n8 ?_ (fun k' e _ => ?_) (fun k3 m3 v q1 q2 q3 q4 q5 q6 q7 q8 q9 q10 => ?_)
  · have e := hq.1.2.2.2.1
    rcases hc with ⟨rfl, rfl⟩ | ⟨rfl, rfl⟩ <;> (unfold f_Op_bytesOfE; rw [e]; rfl)
  · rcases hc with ⟨rfl, rfl⟩ | ⟨rfl, rfl⟩ <;> (unfold f_Op_isWritten; rw [e]; rfl)
  · refine ex_2 n2 n1 n5 q5 ?_
    rw [tw_s n1 n2 n6 q5]
    have ee : f_Tw_executeSingle (nI (n - 256)) k3 = (f_De_sizeV k3).bind (fun r1 => k_Tw_executeSingle_240 r1 k3) := by
      rcases hc with ⟨rfl, rfl⟩ | ⟨rfl, rfl⟩ <;> rfl
    rw [ee, K_sizeV, po_bs2, q6, q7, g6, g5]
    unfold k_Tw_executeSingle_240
    obtain ⟨k4, m4, w1, w2, w3, _⟩ := wG q1.1 q2.1 hz.1 hz.2 (em_r _ v)
    rw [q3, po_bs2, w1, w2]
    exact fin2 w3
theorem g_cmov {k0 k m : z_Sg} {n : Nat} (h1 : 320 ≤ n) (h2 : n < 336) (h : TQ (nI n) k0 k m) (x2 : Int32) : z_r k0 ((k_De_decode_43 (-1) 2 k).bind S1) (e_f_Mo_second (nI (n - 256)) x2 m) FQQ := by
  have fx : ∀ n, n < 336 → 320 ≤ n → oE n = true ∧ eE n = true ∧ flE n = true ∧ ¬ nI (n - 256) < (64 : Int32) ∧ ¬ (79 : Int32) < nI (n - 256) := by decide +kernel
  obtain ⟨f1, f2, f3, f4, f5⟩ := fx n h2 h1
  unfold e_f_Mo_second
  rw [if_neg f4, if_neg f5]
  refine run_o (by omega) f1 h (fun k2 m1 hq g6 g5 e10 e16 => ?_)
  have hz := szV_8 (z_gI m 10) (z_gI m 16)
  rw [M_wide, po_bs2, e10, e16]
  refine run_e (by omega) f2 hq (Or.inl rfl) hz.1 hz.2 ?_ (fun k' e _ => ?_) (fun k3 m3 v q1 q2 q3 q4 q5 q6 q7 q8 q9 q10 => ?_)
  · have bx : be2E n = true := by
      have : ∀ n, n < 336 → 320 ≤ n → be2E n = true := by decide +kernel
      exact this n h2 h1
    rw [be_2 (n := n) (by omega) (by omega) bx hq.1.2.2.2.1, if_neg (by omega), g6, g5]
  · have : n = 320 ∨ n = 321 ∨ n = 322 ∨ n = 323 ∨ n = 324 ∨ n = 325 ∨ n = 326 ∨ n = 327 ∨ n = 328 ∨ n = 329 ∨ n = 330 ∨ n = 331 ∨ n = 332 ∨ n = 333 ∨ n = 334 ∨ n = 335 := by omega
    rcases this with rfl | rfl | rfl | rfl | rfl | rfl | rfl | rfl | rfl | rfl | rfl | rfl | rfl | rfl | rfl | rfl <;> (unfold f_Op_isWritten; rw [e]; rfl)
  · refine ex_2 (by omega) (by omega) f3 q5 ?_
    have y10 : z_gI m3 10 = z_gI m 10 := by rw [fr_I q10 10 (by decide)]; exact e10
    have y16 : z_gI m3 16 = z_gI m 16 := by rw [fr_I q10 16 (by decide)]; exact e16
    obtain ⟨b, b1, b2⟩ := hld_r (n := n - 256) (n' := n - 256) q1.1.2.1 q1.2.2.2.2.1 (by omega) (by omega) rfl
    have et : f_Tw_execute k3 = k_Tw_execute_68 (nI (n - 256)) k3 := by
      unfold f_Tw_execute
      rw [po_nm2, q5, tw_n (by omega) (by omega)]
      have c : ∀ n, n < 336 → 320 ≤ n → (nI (n - 256) &&& (-8 : Int32)) = 64 ∨ (¬ (nI (n - 256) &&& (-8 : Int32)) = 64 ∧ (nI (n - 256) &&& (-8 : Int32)) = 72) := by decide +kernel
      rcases c n h2 h1 with c1 | ⟨c1, c2⟩
      · rw [if_pos c1]
      · rw [if_neg c1, if_pos c2]
    rw [et]
    unfold k_Tw_execute_68 f_Tw_moveIf k_Tw_moveIf_34
    rw [b1, po_bs2, po_nm2, q2.2.1, M_wide, y10, y16, po_bs2, b2, po_bs2]
    obtain ⟨gw, gw1, gw2, _⟩ := g_r q1.1.1 q2.1 hz.1 hz.2
    cases b with
    | false =>
      rw [if_pos (show b2i false = 0 from rfl), if_pos (show b2i false = 0 from rfl), gw1, po_bs2, po_bs2, gw2, po_bs2]
      unfold k_Mo_second_51
      obtain ⟨k4, m4, w1, w2, w3, _⟩ := wG q1.1 q2.1 hz.1 hz.2 (em_r _ gw)
      rw [w1, w2]
      exact fin2 w3
    | true =>
      rw [if_neg (show ¬ b2i true = 0 by decide), if_neg (show ¬ b2i true = 0 by decide), q3, po_bs2]
      unfold k_Mo_second_51
      obtain ⟨k4, m4, w1, w2, w3, _⟩ := wG q1.1 q2.1 hz.1 hz.2 (em_r _ v)
      rw [w1, w2]
      exact fin2 w3
theorem g_setc {k0 k m : z_Sg} {n : Nat} (h1 : 400 ≤ n) (h2 : n < 416) (h : TQ (nI n) k0 k m) (x2 : Int32) : z_r k0 ((k_De_decode_43 (-1) 2 k).bind S1) (e_k_Mo_second_84 (nI (n - 256)) x2 m) FQQ := by
  have fx : ∀ n, n < 416 → 400 ≤ n → oE n = true ∧ eE n = true ∧ flE n = true ∧ ¬ nI (n - 256) < (144 : Int32) ∧ ¬ (159 : Int32) < nI (n - 256) := by decide +kernel
  obtain ⟨f1, f2, f3, f4, f5⟩ := fx n h2 h1
  unfold e_k_Mo_second_84
  rw [if_neg f4, if_neg f5]
  refine run_o (by omega) f1 h (fun k2 m1 hq g6 g5 e10 e16 => ?_)
  refine run_e (s := 1) (by omega) f2 hq (Or.inr rfl) (by decide) (by decide) ?_ (fun k' e _ => ?_) (fun k3 m3 v q1 q2 q3 q4 q5 q6 q7 q8 q9 q10 => ?_)
  · have bx : be2E n = true := by
      have : ∀ n, n < 416 → 400 ≤ n → be2E n = true := by decide +kernel
      exact this n h2 h1
    rw [be_2 (n := n) (by omega) (by omega) bx hq.1.2.2.2.1, if_pos (by omega)]
  · unfold f_Op_isWritten
    have c : ∀ n, n < 416 → 400 ≤ n → (64 : Int32) ≤ nI n ∧ (nI n &&& (-16 : Int32)) = 400 := by decide +kernel
    rw [po_nm2, e, if_pos (c n h2 h1).1, if_pos (c n h2 h1).2]
  · refine ex_2 (by omega) (by omega) f3 q5 ?_
    obtain ⟨b, b1, b2⟩ := hld_r (n := n - 256) (n' := n - 256) q1.1.2.1 q1.2.2.2.2.1 (by omega) (by omega) rfl
    have et : f_Tw_execute k3 = k_Tw_execute_83 (nI (n - 256)) k3 := by
      unfold f_Tw_execute
      rw [po_nm2, q5, tw_n (by omega) (by omega)]
      have c : ∀ n, n < 416 → 400 ≤ n → ¬ (nI (n - 256) &&& (-8 : Int32)) = 64 ∧ ¬ (nI (n - 256) &&& (-8 : Int32)) = 72 ∧ ((nI (n - 256) &&& (-8 : Int32)) = 144 ∨ (¬ (nI (n - 256) &&& (-8 : Int32)) = 144 ∧ (nI (n - 256) &&& (-8 : Int32)) = 152)) := by decide +kernel
      obtain ⟨c1, c2, c3⟩ := c n h2 h1
      rw [if_neg c1, if_neg c2]
      rcases c3 with c3 | ⟨c3, c4⟩
      · rw [if_pos c3]
      · rw [if_neg c3, if_pos c4]
    rw [et]
    unfold k_Tw_execute_83 k_Tw_execute_103 k_Mo_second_124
    rw [b1, po_bs2, b2, po_bs2]
    cases b with
    | false =>
      rw [if_pos (show b2i false = 0 from rfl), if_pos (show b2i false = 0 from rfl)]
      obtain ⟨k4, m4, w1, w2, w3, _⟩ := wE q1.1 q1.2.1 q2 (by decide) (by decide) (em_r _ 0)
      rw [w1, show (1 : Int32) = nI 1 from rfl, w2]
      exact fin2 w3
    | true =>
      rw [if_neg (show ¬ b2i true = 0 by decide), if_neg (show ¬ b2i true = 0 by decide)]
      obtain ⟨k4, m4, w1, w2, w3, _⟩ := wE q1.1 q1.2.1 q2 (by decide) (by decide) (em_r _ 1)
      rw [w1, show (1 : Int32) = nI 1 from rfl, w2]
      exact fin2 w3
