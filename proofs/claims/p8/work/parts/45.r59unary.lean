theorem eb_190 (x : Option (Sum z_Dd z_Sg)) : z_eb x (fun r => ((k_Mo_unary_190 r).bind (fun o => some (.inr o)))) = x := eb_id x k_Mo_unary_190 (fun _ => rfl)
theorem g_unary {k0 k m : z_Sg} {n : Nat} (hc : n = 246 ∨ n = 247) (h : TQ (nI n) k0 k m) : z_r k0 ((k_De_decode_43 (-1) 2 k).bind S1) (e_f_Mo_unary (nI (szO n (z_gI m 10) (z_gI m 16))) m) FQQ := by
  have gen : ∀ n, n = 246 ∨ n = 247 → n < 256 ∧ eE n = true ∧ flE n = true ∧ srE n = true ∧ ¬ n / 8 = 57 := by
    rintro n (rfl | rfl) <;> decide
  obtain ⟨n1, n2, n3, n4, n5⟩ := gen n hc
  obtain ⟨s1, s8⟩ := szO_in n (z_gI m 10) (z_gI m 16)
  have hs4 : szO n (z_gI m 10) (z_gI m 16) = 1 ∨ szO n (z_gI m 10) (z_gI m 16) = 2 ∨ szO n (z_gI m 10) (z_gI m 16) = 4 ∨ szO n (z_gI m 10) (z_gI m 16) = 8 := by
    unfold szO
    have := szV_in (z_gI m 10) (z_gI m 16)
    split <;> omega
  obtain ⟨x6, x5⟩ := TQ_x h
  unfold e_f_Mo_unary
  refine dec_mm h (by decide) (tis (Or.inr (by decide)) (by rw [TQ_o h]; exact o_bs (by omega) n5)) (by decide) (fun k1 m1 h1 hM e6 e5 _ => ?_)
  obtain ⟨r, hr, r1, r2⟩ := MR_reg hM
  obtain ⟨R0, R1, R2, R3, R4, R5, R6, R7⟩ := nI_r8 hr
  have et : f_De_isToldWithModrm k1 = if z_gI k1 13 = 1 then some 0 else some 1 := by
    rcases hc with rfl | rfl <;> (unfold f_De_isToldWithModrm; rw [TQ_o h1]; rfl)
  by_cases c1 : r = 1
  · rw [if_pos (r2.trans (R1.mpr c1))]
    exact untold (by rw [et, if_pos (r1.trans (R1.mpr c1))]) h1.2.1 h1.1
  · rw [if_neg (fun x => c1 (R1.mp (r2.symm.trans x)))]
    refine told (by rw [et, if_neg (fun x => c1 (R1.mp (r1.symm.trans x)))]) ?_
    unfold e_k_Mo_unary_18
    refine dec_mp h1 hM (fun k2 m2 hp g6 g5 g13 g8 => ?_)
    rw [po_nm2]
    have m8 : z_gI (z_sL m2 7 (z_gL m2 0 + (z_gI m2 6).toInt64)) 8 = nI r := by show z_gI m2 8 = _; rw [g8, r2]
    have hp' := P9_g hp (z_gL m2 0 + (z_gI m2 6).toInt64)
    have hgo : z_gL (z_sL m2 7 (z_gL m2 0 + (z_gI m2 6).toInt64)) 7 = z_gL (z_sL m2 7 (z_gL m2 0 + (z_gI m2 6).toInt64)) 0 + (z_gI (z_sL m2 7 (z_gL m2 0 + (z_gI m2 6).toInt64)) 6).toInt64 := rfl
    generalize z_sL m2 7 (z_gL m2 0 + (z_gI m2 6).toInt64) = m3 at *
    have k13 : z_gI k2 13 = nI r := by rw [g13, r1]
    have ko := TQ_o hp'.1
    have w6 : z_gI k2 6 = z_gI m 10 := by rw [g6, e6, x6]
    have w5 : z_gI k2 5 = z_gI m 16 := by rw [g5, e5, x5]
    have be : ∀ k', z_gI k' 11 = nI n → z_gI k' 6 = z_gI m 10 → z_gI k' 5 = z_gI m 16 → f_Op_bytesOfE k' = some (nI (szO n (z_gI m 10) (z_gI m 16))) := by
      intro k' e a6 a5
      rw [be_1 n1 (by omega) e, a6, a5]
    have isw : ∀ k', z_gI k' 11 = nI n → z_gI k' 13 = nI r → f_Op_isWritten k' = some (if r = 2 ∨ r = 3 then 1 else 0) := by
      intro k' e e13
      have : f_Op_isWritten k' = k_Op_isWritten_292 k' := by
        rcases hc with rfl | rfl <;> (unfold f_Op_isWritten; rw [e]; rfl)
      rw [this]
      unfold k_Op_isWritten_292 k_Op_isWritten_314 k_Op_isWritten_319
      rw [e13]
      by_cases d2 : r = 2
      · rw [if_pos (R2.mpr d2), if_pos (Or.inl d2)]; rfl
      · rw [if_neg (fun x => d2 (R2.mp x))]
        by_cases d3 : r = 3
        · rw [if_pos (R3.mpr d3), if_pos (Or.inr d3)]; rfl
        · rw [if_neg (fun x => d3 (R3.mp x)), if_neg (by omega)]; rfl
    have exe : ∀ k', z_gI k' 11 = nI n → f_On_execute k' = (f_On_executeByReg k').bind (fun r11 => some (r11.1, r11.2)) := by
      intro k' e
      rcases hc with rfl | rfl <;> (unfold f_On_execute; rw [e]; rfl)
    rw [m8]
    by_cases c0 : r = 0
    ·
      rw [if_pos (R0.mpr c0), M_four s8, po_bs2]
      have hbn : f_De_bytesOfNumber 2 k2 = some (nI (min (szO n (z_gI m 10) (z_gI m 16)) 4)) := by
        have e13 : z_gI k2 13 = 0 := by rw [k13]; exact R0.mpr c0
        rcases hc with rfl | rfl
        · have : f_De_bytesOfNumber 2 k2 = k_De_bytesOfNumber_59 2 k2 := by
            unfold f_De_bytesOfNumber; rw [ko]; rfl
          rw [this]
          unfold k_De_bytesOfNumber_59 k_De_bytesOfNumber_71
          rw [if_pos e13, ko]; rfl
        · have : f_De_bytesOfNumber 2 k2 = k_De_bytesOfNumber_59 2 k2 := by
            unfold f_De_bytesOfNumber; rw [ko]; rfl
          rw [this]
          unfold k_De_bytesOfNumber_59 k_De_bytesOfNumber_71 k_De_bytesOfNumber_94
          rw [if_pos e13, ko, if_pos (by decide), if_neg (by decide), if_pos (show nI 247 = 247 from rfl), K_sizeV, po_bs2, min_4 (szV_in _ _), po_bs2, w6, w5]
          rfl
      refine dec_9n hp' (by omega) (by omega) hbn (fun k3 b hq h9 i6 i5 i13 i8 => ?_)
      rw [M_lowest _ s8, po_bs2]
      refine run_e (by omega) n2 hq (Or.inl rfl) s1 s8 (be k3 hq.1.2.2.2.1 (i6.trans w6) (i5.trans w5)) (fun k' e e13 => ?_) (fun k4 m4 v q1 q2 q3 q4 q5 q6 q7 q8 q9 q10 => ?_)
      · rw [isw k' e (e13.trans (i13.trans k13)), if_neg (by omega)]
      · refine ex_1 n1 n3 n4 q5 ?_
        rw [exe k4 q5]
        unfold f_On_executeByReg k_On_executeByReg_166
        have e13 : z_gI k4 13 = 0 := by rw [q8, i13, k13]; exact R0.mpr c0
        obtain ⟨k5, m5, w1, w2, w3⟩ := logic_r q1.1.2.1 (EQn_L q1.1.1 (by decide)) s1 s8 (em_and (em_r _ v) (em_low b.1 s8))
        rw [po_nm2, q2.2.1, q3, po_bs2, if_pos e13, q9, h9, w1]
        refine r_M w2 ?_
        exact fin (EQ_FU q1.1 w3)
    · rw [if_neg (fun x => c0 (R0.mp x))]
      have hbn : f_De_bytesOfNumber 2 k2 = some 0 := by
        have e13 : ¬ z_gI k2 13 = 0 := by rw [k13]; exact fun x => c0 (R0.mp x)
        have : f_De_bytesOfNumber 2 k2 = k_De_bytesOfNumber_59 2 k2 := by
          rcases hc with rfl | rfl <;> (unfold f_De_bytesOfNumber; rw [ko]; rfl)
        rw [this]
        unfold k_De_bytesOfNumber_59
        rw [if_neg e13]; rfl
      refine dec_90 hp' hgo hbn (fun k3 hq _ i6 i5 i13 => ?_)
      have hbe := be k3 hq.1.2.2.2.1 (i6.trans w6) (i5.trans w5)
      have j13 : z_gI k3 13 = nI r := i13.trans k13
      by_cases c2 : r = 2
      ·
        rw [if_pos (R2.mpr c2)]
        refine run_e (by omega) n2 hq (Or.inr rfl) s1 s8 hbe (fun k' e e13 => ?_) (fun k4 m4 v q1 q2 q3 q4 q5 q6 q7 q8 q9 q10 => ?_)
        · rw [isw k' e (e13.trans j13), if_pos (Or.inl c2)]
        · refine ex_1 n1 n3 n4 q5 ?_
          rw [exe k4 q5]
          unfold f_On_executeByReg k_On_executeByReg_166
          have e13 : z_gI k4 13 = nI r := q8.trans j13
          obtain ⟨k5, m5, w1, w2, w3, _⟩ := wE q1.1 q1.2.1 q2 s1 s8 (em_r _ (v ^^^ (-1 : Int64)))
          rw [po_nm2, q2.2.1, q3, po_bs2, e13, if_neg (fun x => by have := R0.mp x; omega), if_neg (fun x => by have := R1.mp x; omega), if_pos (R2.mpr c2), w1]
          refine r_M w2 ?_
          exact fin w3
      · rw [if_neg (fun x => c2 (R2.mp x))]
        by_cases c3 : r = 3
        ·
          rw [if_pos (R3.mpr c3)]
          refine run_e (by omega) n2 hq (Or.inr rfl) s1 s8 hbe (fun k' e e13 => ?_) (fun k4 m4 v q1 q2 q3 q4 q5 q6 q7 q8 q9 q10 => ?_)
          · rw [isw k' e (e13.trans j13), if_pos (Or.inr c3)]
          · refine ex_1 n1 n3 n4 q5 ?_
            rw [exe k4 q5]
            unfold f_On_executeByReg k_On_executeByReg_166
            have e13 : z_gI k4 13 = nI r := q8.trans j13
            obtain ⟨w, k5, m5, a1, a2, a3, _⟩ := dif_r q1.1.2.1 false s1 s8 (em_r _ 0) (em_r _ v)
            obtain ⟨k6, m6, w1, w2, w3, _⟩ := wE (EQ_FU q1.1 a3) (FU_5 a3 q1.2.1) (ME_FU q2 a3) s1 s8 (em_r _ w)
            have a1' : f_Ar_difference 0 v 0 (nI (szO n (z_gI m 10) (z_gI m 16))) k4 = some (w, k5) := a1
            rw [po_nm2, q2.2.1, q3, po_bs2, e13, if_neg (fun x => by have := R0.mp x; omega), if_neg (fun x => by have := R1.mp x; omega), if_neg (fun x => by have := R2.mp x; omega), if_pos (R3.mpr c3), a1', po_bs2, w1]
            refine r_M a2 (r_M w2 ?_)
            exact fin w3
        · rw [if_neg (fun x => c3 (R3.mp x))]
          have l6 : (6 : Int32) ≤ nI r ↔ 6 ≤ r := by
            have : ∀ r, r < 8 → ((6 : Int32) ≤ nI r ↔ 6 ≤ r) := by decide +kernel
            exact this r hr
          by_cases c6 : 6 ≤ r
          ·
            rw [if_pos (l6.mpr c6)]
            refine run_e (by omega) n2 hq (Or.inl rfl) s1 s8 hbe (fun k' e e13 => ?_) (fun k4 m4 v q1 q2 q3 q4 q5 q6 q7 q8 q9 q10 => ?_)
            · rw [isw k' e (e13.trans j13), if_neg (by omega)]
            · refine ex_1 n1 n3 n4 q5 ?_
              rw [exe k4 q5]
              unfold f_On_executeByReg
              have e13 : z_gI k4 13 = nI r := q8.trans j13
              have f8 : z_gI m4 8 = nI r := by rw [fr_I q10 8 (by decide)]; exact m8
              rw [po_nm2, q2.2.1, q3, po_bs2, e13, if_neg (fun x => by have := R0.mp x; omega), if_neg (fun x => by have := R1.mp x; omega), if_neg (fun x => by have := R2.mp x; omega), if_neg (fun x => by have := R3.mp x; omega), if_neg (fun x => by have := R4.mp x; omega), if_neg (fun x => by have := R5.mp x; omega)]
              have := div_r (k0 := k0) q1.2.2.1 q1.1 (decide (r = 7)) hs4 q4 (by rw [e13, R7, decide_eq_true_iff])
              have eM : (if (z_gI m4 8) = (7 : Int32) then (e_k_Mo_unary_187 v (nI (szO n (z_gI m 10) (z_gI m 16))) (1 : Int32) m4) else (e_k_Mo_unary_187 v (nI (szO n (z_gI m 10) (z_gI m 16))) (0 : Int32) m4)) = e_k_Mo_unary_187 v (nI (szO n (z_gI m 10) (z_gI m 16))) (b2i (decide (r = 7))) m4 := by
                rw [f8]
                by_cases c7 : r = 7
                · rw [if_pos (R7.mpr c7), decide_eq_true c7]; rfl
                · rw [if_neg (fun x => c7 (R7.mp x)), decide_eq_false c7]; rfl
              refine r_eqM eM ?_
              refine r_eqK ?_ this
              cases k_On_executeByReg_159 (nI (szO n (z_gI m 10) (z_gI m 16))) v k4 <;> rfl
          ·
            rw [if_neg (fun x => c6 (l6.mp x))]
            refine run_e (by omega) n2 hq (Or.inl rfl) s1 s8 hbe (fun k' e e13 => ?_) (fun k4 m4 v q1 q2 q3 q4 q5 q6 q7 q8 q9 q10 => ?_)
            · rw [isw k' e (e13.trans j13), if_neg (by omega)]
            · refine ex_1 n1 n3 n4 q5 ?_
              rw [exe k4 q5]
              unfold f_On_executeByReg
              have e13 : z_gI k4 13 = nI r := q8.trans j13
              have f8 : z_gI m4 8 = nI r := by rw [fr_I q10 8 (by decide)]; exact m8
              rw [po_nm2, q2.2.1, q3, po_bs2, e13, if_neg (fun x => by have := R0.mp x; omega), if_neg (fun x => by have := R1.mp x; omega), if_neg (fun x => by have := R2.mp x; omega), if_neg (fun x => by have := R3.mp x; omega)]
              have := mulOp_r (k0 := k0) q1.1 (decide (r = 5)) hs4 v (by rw [e13, R5, decide_eq_true_iff])
              have eM : (if (z_gI m4 8) = (5 : Int32) then ((k_Mo_unary_159 v (nI (szO n (z_gI m 10) (z_gI m 16))) (1 : Int32) m4).bind (fun o => some (Sum.inr (α := z_Dd) o))) else ((k_Mo_unary_159 v (nI (szO n (z_gI m 10) (z_gI m 16))) (0 : Int32) m4).bind (fun o => some (Sum.inr o)))) = (k_Mo_unary_159 v (nI (szO n (z_gI m 10) (z_gI m 16))) (b2i (decide (r = 5))) m4).bind (fun o => some (Sum.inr o)) := by
                rw [f8]
                by_cases c7 : r = 5
                · rw [if_pos (R5.mpr c7), decide_eq_true c7]; rfl
                · rw [if_neg (fun x => c7 (R5.mp x)), decide_eq_false c7]; rfl
              refine r_eqM eM ?_
              refine r_eqK ?_ this
              have e45 : ∀ A B : Option (Int32 × z_Sg), (if nI r = (4 : Int32) then A else (if nI r = (5 : Int32) then A else B)) = A := by
                intro A B
                by_cases d4 : r = 4
                · rw [if_pos (R4.mpr d4)]
                · rw [if_neg (fun x => d4 (R4.mp x)), if_pos (R5.mpr (by omega))]
              rw [e45]
              cases k_On_executeByReg_117 (nI (szO n (z_gI m 10) (z_gI m 16))) v k4 <;> rfl
