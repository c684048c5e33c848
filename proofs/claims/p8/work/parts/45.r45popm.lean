theorem g_popm {k0 k m : z_Sg} (h : TQ (nI 143) k0 k m) : z_r k0 ((k_De_decode_43 (-1) 2 k).bind S1) (e_f_Mo_popOperand m) FQQ := by
  obtain ⟨x6, x5⟩ := TQ_x h
  have b4 : ¬ z_bad (4 : Int32) 16 := by decide
  unfold e_f_Mo_popOperand
  refine dec_mm h (by decide) (tis (Or.inr (by decide)) (by rw [TQ_o h]; decide)) (by decide) (fun k1 m1 h1 hM e6 e5 _ => ?_)
  obtain ⟨r, hr, r1, r2⟩ := MR_reg hM
  have et : f_De_isToldWithModrm k1 = k_De_isToldWithModrm_150 k1 := by
    unfold f_De_isToldWithModrm; rw [TQ_o h1]; rfl
  by_cases c : r = 0
  · have e8 : z_gI m1 8 = 0 := by rw [r2, c]; rfl
    have e13 : z_gI k1 13 = 0 := by rw [r1, c]; rfl
    rw [if_pos e8]
    refine told (by rw [et]; unfold k_De_isToldWithModrm_150; rw [if_pos e13]; rfl) ?_
    unfold e_k_Mo_popOperand_17
    refine dec_mp h1 hM (fun k2 m2 hp g6 g5 g13 g8 => ?_)
    rw [po_nm2]
    refine dec_90 (P9_g hp (z_gL m2 0 + (z_gI m2 6).toInt64)) rfl (bn_0 (by decide) (by rw [TQ_o hp.1]; decide) (by rw [TQ_o hp.1]; decide)) (fun k3 hq _ i6 i5 i13 => ?_)
    generalize hm4 : z_sL m2 7 (z_gL m2 0 + (z_gI m2 6).toInt64) = m4 at *
    have ho3 : z_gI k3 11 = nI 143 := hq.1.2.2.2.1
    have hS8 := szS_8 (z_gI m4 10) (z_gI m4 16)
    generalize hs : szS (z_gI m4 10) (z_gI m4 16) = s at hS8
    have s1 : 1 ≤ s := by omega
    have s8 : s ≤ 8 := by omega
    have hb : f_Op_bytesOfE k3 = some (nI s) := by
      have : f_Op_bytesOfE k3 = (f_De_sizeOnStack k3).bind (fun r5 => some r5) := by
        unfold f_Op_bytesOfE; rw [ho3]; rfl
      rw [this, K_szS hq.1.1.1, hs]; rfl
    have hop : (f_Op_open k3).bind S2 = k_Co_step_21 (-1) (z_sI k3 15 (nI s)) := by
      unfold f_Op_open
      rw [hb, po_bs2, po_nm2]
      have e11 : ¬ z_gI (z_sI k3 15 (nI s)) 11 = 141 := by show ¬ z_gI k3 11 = 141; rw [ho3]; decide
      by_cases c3 : z_gI (z_sI k3 15 (nI s)) 12 = 3
      · rw [if_pos c3]; rfl
      · rw [if_neg c3, if_neg e11, if_pos (show z_gI (z_sI k3 15 (nI s)) 11 = 143 from ho3)]; rfl
    rw [hop]
    have q1 := PR_15 hq.1 (nI s)
    have hM4 : MR (z_sI k3 15 (nI s)) m4 := hq.2.1
    have hPL : z_gI (z_sI k3 15 (nI s)) 12 = 3 ∨ PLr (z_sI k3 15 (nI s)) m4 := PLr_fr hq.2.2.1 (fr_sI (Ls := []) (Is := [15]) (Ms := []) (Ns := []) fr_0 (by decide)) (fr_0 (Ls := []) (Is := []) (Ms := []) (Ns := [])) (by decide) (by decide) (by decide) (by decide)
    have hon : z_gL (z_sI k3 15 (nI s)) 10 = z_gL m4 0 + (z_gI m4 6).toInt64 := hq.2.2.2
    have h15 : z_gI (z_sI k3 15 (nI s)) 15 = nI s := rfl
    generalize hk4 : z_sI k3 15 (nI s) = k4 at *
    have ho4 : z_gI k4 11 = nI 143 := q1.2.2.2.1
    have hF0 : f_Fl_execute k4 = if (z_gI k4 12) = (3 : Int32) then ((f_De_registerE k4).bind (fun r23 => (f_Fl_popRegister r23 k4).bind (fun r24 => k_Fl_execute_360 r24.1 r24.2))) else ((f_Fl_popMemory k4).bind (fun r22 => k_Fl_execute_360 r22.1 r22.2)) := by
      unfold f_Fl_execute; rw [ho4]; rfl
    rw [M_stackSize, hs, po_bs2]
    obtain ⟨b, hb8, j1, j2, j3, j4, j5, j6⟩ := hM4
    by_cases c3 : z_gI k4 12 = 3
    ·
      have c7 : z_gI m4 7 = 3 := by rw [j2, ← j1]; exact c3
      obtain ⟨e, j, hj, x1, x2, x3, x4, _⟩ := rno (EQn_x q1.1.1) 1 (show b % 8 < 8 by omega)
      have hF : f_Fl_execute k4 = (f_Fl_popRegister (nI j) k4).bind (fun r24 => k_Fl_execute_360 r24.1 r24.2) := by
        rw [hF0, if_pos c3]
        unfold f_De_registerE
        rw [x1, po_bs2, po_bs2, j5, x3]
      refine ex_fl hF (n2_b (n2_popR _ _) (fun o ho => n2_s ho)) ?_
      have := popR_fin (k0 := k0) (k := k4) (m := m4) q1.2.2.1 q1.1 q1.2.1 hj (K := fun r24 => k_Fl_execute_360 r24.1 r24.2) (fun o => rfl) (L := fun r6 => ((f_Mo_stackSize r6.2).bind (fun r7 => (z_eb (e_f_Mo_e r7 (1 : Int32) r6.2) (fun r8 => ((f_Mo_stackSize r8.2).bind (fun r9 => ((f_Mo_setE r9 r6.1 r8.2).bind (fun r10 => (some (.inr r10)))))))))))  (fun v m5 hf => by
        have p7 : z_gI m5 7 = 3 := by rw [fr_I hf 7 (by decide)]; exact c7
        have p9 : z_gI m5 9 = nI (b % 8) := by rw [fr_I hf 9 (by decide)]; exact j6
        have p10 : z_gI m5 10 = z_gI m4 10 := fr_I hf 10 (by decide)
        have p16 : z_gI m5 16 = z_gI m4 16 := fr_I hf 16 (by decide)
        have pp : f_Mo_plus 1 m5 = some e := by
          rw [← x2]
          unfold f_Mo_plus k_Mo_plus_15
          rw [p10]
        show (f_Mo_stackSize m5).bind _ = _
        rw [M_stackSize, p10, p16, hs, po_bs2]
        unfold e_f_Mo_e
        rw [if_pos p7, pp, po_bs2, p9, x4, M_get8 hj s8, po_bs2, eb_s]
        show (f_Mo_stackSize m5).bind _ = _
        rw [M_stackSize, p10, p16, hs, po_bs2]
        unfold f_Mo_setE
        show (if z_gI m5 7 = 3 then _ else _ : Option z_Sg).bind _ = _
        rw [if_pos p7, pp, po_bs2, p9, x4]
        cases f_Mo_put8 (nI j) (nI s) v m5 <;> rfl)
      rw [hs] at this
      exact this
    ·
      have c7 : ¬ z_gI m4 7 = 3 := by rw [j2, ← j1]; exact c3
      have hPL' : PLr k4 m4 := by
        rcases hPL with x | x
        · exact absurd x c3
        · exact x
      refine ex_fl (hF0.trans (if_neg c3)) (n2_b (n2_popM _) (fun o ho => n2_s ho)) ?_
      unfold f_Fl_popMemory
      rw [K_szS q1.1.1, hs, po_bs2, Option.bind_assoc, Option.bind_assoc]
      refine pop_r q1.2.2.1 (PR_S q1) q1.1.1 q1.2.1 s8 (fun o f c g1 g2 => ?_) (fun k5 m5 v f1 f2 hE1 hk1 v1 v2 => ?_)
      · unfold k_Fl_popMemory_37 k_Fl_popMemory_70 k_Fl_execute_360
        rw [if_neg g1, if_neg g1, po_bs2, po_bs2]
        exact S3_no _ f c g1 g2
      · rw [if_pos rfl]
        generalize hm6 : z_sM m5 0 4 (z_gM m5 0 4 + (nI s).toInt64) = m6
        have f6 : fr [] [1] [0, 3] [] m4 m6 := by rw [← hm6]; exact fr_sM (fr_w f2 (by decide) (by decide) (by decide) (by decide)) (by decide)
        have p7 : ¬ z_gI m6 7 = 3 := by rw [fr_I f6 7 (by decide)]; exact c7
        have p10 : z_gI m6 10 = z_gI m4 10 := fr_I f6 10 (by decide)
        have p16 : z_gI m6 16 = z_gI m4 16 := fr_I f6 16 (by decide)
        have hPL5 : PLr k5 m6 := by
          rcases PLr_fr (Or.inr hPL') f1 f6 (by decide) (by decide) (by decide) (by decide) with x | x
          · exact absurd ((fr_I f1 12 (by decide)).symm.trans x) c3
          · exact x
        obtain ⟨p, p1, p2⟩ := place_eq hPL5 (d := (nI s).toInt64) (fun i hi => by
          rw [← hm6, gM_s0, ← EQn_r hE1 (show 4 < 16 by decide)]
          by_cases c : i = 4
          · rw [if_pos c, if_pos c]
          · rw [if_neg c, if_neg c]; exact (EQn_r hE1 hi).symm) (by
          rw [fr_L f1 10 (by decide), hon, fr_L f6 0 (by decide), fr_I f6 6 (by decide)])
        show z_r k0 (((f_De_placeOfE (nI s).toInt64 k5).bind _).bind _) ((f_Mo_stackSize m6).bind _) FQQ
        rw [p1, po_bs2, M_stackSize, p10, p16, hs, po_bs2, Option.bind_assoc]
        unfold e_f_Mo_e
        rw [if_neg p7, p2, po_bs2, eb_bind]
        refine r_pM (R := fun _ => True) (fun _ _ => trivial) (fun st _ => ?_)
        rw [eb_eb]
        have h51 : z_gI m5 5 = 0 := by rw [fr_I f2 5 (by decide)]; exact q1.2.1
        have hmm : memR (z_gM k5 1) (z_gN m5 0) := memW_0 hE1 h51
        have hSL : SimL k5 m6 := by
          rw [← hm6]
          exact ⟨EQn_L hE1 (show 1 < 6 by decide), by
            show z_gI k5 2 = z_gI m5 2
            rw [fr_I f1 2 (by decide), fr_I f2 2 (by decide)]; exact q1.1.2.2.1, hmm, EQn_L hE1 (show 5 < 6 by decide), hE1.2.2.1⟩
        have k15 : z_gI k5 15 = nI s := by rw [fr_I f1 15 (by decide)]; exact h15
        have go : ∀ stk : Int32, z_r k0 ((k_Op_openAt_40 p (nI s) 1 stk k5).bind (fun r11 => (k_Fl_popMemory_37 (nI s) r11.1 r11.2).bind (fun y => (k_Fl_execute_360 y.1 y.2).bind S3))) (z_eb (e_f_Mo_lookUp p (nI s) 1 st m6) (fun a => z_eb ((f_Mo_held (nI s) a).bind (fun r6 => (k_Mo_e_55 r6 a).bind (fun o => some (.inr o)))) (fun r8 => (f_Mo_stackSize r8.2).bind (fun r9 => (f_Mo_setE r9 v r8.2).bind (fun r10 => some (.inr r10)))))) FQQ := by
          intro stk
          unfold k_Op_openAt_40
          rw [Option.bind_assoc]
          refine r_b (find_rel_7L (KF_n hk1) hSL s8) (fun o f c g1 g2 => ?_) (fun k7 m7 hq7 => ?_)
          · rw [po_bs2]
            unfold k_Fl_popMemory_37 k_Fl_popMemory_70 k_Fl_execute_360
            rw [if_neg g1, po_bs2, po_bs2]
            exact S3_no _ f c g1 g2
          · obtain ⟨u1, u2, u3, u4⟩ := hq7
            have fm7 : fr [] [1] [0, 3] [] m4 m7 := fr_t f6 (fr_w u2 (by decide) (by decide) (by decide) (by decide))
            have fk7 : fr [] [16, 17] [2, 3] [] k4 k7 := fr_t (fr_w f1 (by decide) (by decide) (by decide) (by decide)) (fr_w u1 (by decide) (by decide) (by decide) (by decide))
            have h57 : z_gI m7 5 = 0 := by rw [fr_I fm7 5 (by decide)]; exact q1.2.1
            have a7 : z_gI m7 4 = -1 := by rw [fr_I fm7 4 (by decide)]; exact EQn_a q1.1.1
            have c37 : ¬ z_gI k7 12 = 3 := by rw [fr_I fk7 12 (by decide)]; exact c3
            have d7 : ¬ z_gI m7 7 = 3 := by rw [fr_I fm7 7 (by decide)]; exact c7
            obtain ⟨k8, w1, w2, w3⟩ := K_put_7 s8 u3 v
            obtain ⟨m8, y1, y2, y3, y4⟩ := M_hold s8 a7 h57 v
            have hput : f_Op_put v k7 = some k8 := by
              unfold f_Op_put
              rw [if_neg c37, w1, po_bs2]; rfl
            have hset : f_Mo_setE (nI s) v m7 = some m8 := by
              unfold f_Mo_setE
              rw [if_neg d7, y1, po_bs2]; rfl
            rw [po_bs2]
            unfold k_Fl_popMemory_37 k_Fl_popMemory_70 k_Fl_execute_360
            rw [if_pos rfl, v2 k7 (fr_M u1 1 (by decide)) (fr_M u1 3 (by decide)) (fr_I u1 17 (by decide)), po_bs2, hput, po_bs2, if_neg b4, if_neg b4, po_nm2]
            rw [M_held s8, po_bs2]
            show z_r k0 (S3 (-1, z_sM k8 0 4 (z_gM k8 0 4 + (nI s).toInt64))) ((f_Mo_stackSize m7).bind _) FQQ
            rw [M_stackSize, fr_I fm7 10 (by decide), fr_I fm7 16 (by decide), hs, po_bs2, hset, po_bs2]
            have fk8 : fr [] [16, 17] [0, 1, 2, 3] [] k4 (z_sM k8 0 4 (z_gM k8 0 4 + (nI s).toInt64)) := fr_sM (fr_t (fr_w fk7 (by decide) (by decide) (by decide) (by decide)) (fr_w w2 (by decide) (by decide) (by decide) (by decide))) (by decide)
            have fm8 : fr [] [1, 5] [0, 2, 3] [3] m4 m8 := fr_t (fr_w fm7 (by decide) (by decide) (by decide) (by decide)) (fr_w y2 (by decide) (by decide) (by decide) (by decide))
            have hr0 : ∀ i, i < 16 → z_gM k8 0 i = z_gM m5 0 i := fun i hi => by
              rw [fr_M w2 0 (by decide), fr_M u1 0 (by decide)]; exact EQn_r hE1 hi
            refine fin (EQ_of q1.1 (EQn_hold q1.1.1 q1.2.1 fk8 fm8 (by decide) (by decide) rfl (fun i hi => ?_) s8 y3 (A := z_gM k7 2) (B := fun i => (z_lushr v (nI (8 * i))).toInt32) (fun y => ?_) (fun j hj => ⟨?_, ?_, ?_⟩)) fk8 fm8 (by decide) (by decide) (by decide))
            · rw [gM_s0, fr_M y2 0 (by decide), fr_M u2 0 (by decide), ← hm6, gM_s0]
              by_cases c : i = 4
              · rw [if_pos c, if_pos c, hr0 4 (by decide)]
              · rw [if_neg c, if_neg c]; exact hr0 i hi
            · show kB (z_gM k8 1) y = _
              rw [w3 y, fr_M fk7 1 (by decide)]
            · rw [(y4 j hj).1]; exact (u4 j hj).1
            · rw [(y4 j hj).2]; exact by_em (em_r s v) hj s8
            · rw [(y4 j hj).1]; exact (u4 j hj).2
        unfold f_Op_openAt
        rw [if_neg (show ¬ (1 : Int32) = 0 by decide), k15]
        unfold k_Op_openAt_18
        rw [Option.bind_assoc]
        refine r_pK (R := fun _ => True) (fun _ _ => trivial) (fun a _ => ?_)
        by_cases ca : a = 0
        · rw [if_pos ca, Option.bind_assoc]
          refine r_pK (R := fun _ => True) (fun _ _ => trivial) (fun bb _ => ?_)
          by_cases c2 : bb = 0
          · rw [if_pos c2]; exact go 0
          · rw [if_neg c2]; exact go 1
        · rw [if_neg ca]; exact go 1
  · have e8 : ¬ z_gI m1 8 = 0 := by rw [r2]; exact fun x => c ((nI_r8 hr).1.mp x)
    have e13 : ¬ z_gI k1 13 = 0 := by rw [r1]; exact fun x => c ((nI_r8 hr).1.mp x)
    rw [if_neg e8]
    exact untold (by rw [et]; unfold k_De_isToldWithModrm_150; rw [if_neg e13]; rfl) h1.2.1 h1.1
