theorem nI_r8 {j : Nat} (hj : j < 8) : (nI j = 0 ↔ j = 0) ∧ (nI j = 1 ↔ j = 1) ∧ (nI j = 2 ↔ j = 2) ∧ (nI j = 3 ↔ j = 3) ∧ (nI j = 4 ↔ j = 4) ∧ (nI j = 5 ↔ j = 5) ∧ (nI j = 6 ↔ j = 6) ∧ (nI j = 7 ↔ j = 7) := by
  have : ∀ j, j < 8 → (nI j = 0 ↔ j = 0) ∧ (nI j = 1 ↔ j = 1) ∧ (nI j = 2 ↔ j = 2) ∧ (nI j = 3 ↔ j = 3) ∧ (nI j = 4 ↔ j = 4) ∧ (nI j = 5 ↔ j = 5) ∧ (nI j = 6 ↔ j = 6) ∧ (nI j = 7 ↔ j = 7) := by decide +kernel
  exact this j hj
theorem MR_reg {k m : z_Sg} (h : MR k m) : ∃ r, r < 8 ∧ z_gI k 13 = nI r ∧ z_gI m 8 = nI r := by
  obtain ⟨b, hb, e1, e2, e3, e4, e5, e6⟩ := h
  exact ⟨b / 8 % 8, by omega, e3, e4⟩
theorem bn_g {k : z_Sg} {n : Nat} (hc : n = 128 ∨ n = 129 ∨ n = 131) (ho : z_gI k 11 = nI n) : f_De_bytesOfNumber (nI (foT n)) k = some (nI (if n = 129 then z4 (z_gI k 6) (z_gI k 5) else 1)) := by
  rcases hc with rfl | rfl | rfl
  · exact bn_1 (by decide)
  · exact bn_z (by decide) (by rw [ho]; decide) (by rw [ho]; decide)
  · exact bn_1 (by decide)
theorem g_group {k0 k m : z_Sg} {n : Nat} (hc : n = 128 ∨ n = 129 ∨ n = 131) (h : TQ (nI n) k0 k m) : z_r k0 ((k_De_decode_43 (-1) (nI (foT n)) k).bind S1) (e_f_Mo_group (nI n) (nI (szO n (z_gI m 10) (z_gI m 16))) m) FQQ := by
  have gen : ∀ n, n = 128 ∨ n = 129 ∨ n = 131 → n < 256 ∧ oE n = true ∧ eE n = true ∧ flE n = true ∧ srE n = true ∧ (¬ nI (foT n) = 0 ∧ (nI (foT n) &&& (4 : Int32)) = 0 ∧ ¬ (nI (foT n) &&& (2 : Int32)) = 0) := by
    rintro n (rfl | rfl | rfl) <;> decide
  obtain ⟨n1, n3, n4, n5, n6, n7, n8, n9⟩ := gen n hc
  obtain ⟨s1, s8⟩ := szO_in n (z_gI m 10) (z_gI m 16)
  unfold e_f_Mo_group
  refine run_o9 (by omega) n3 n7 n8 n9 h (fun k1 m1 hp hg e6 e5 e10 e16 => ?_)
  have e0 : (if nI n = (131 : Int32) then (e_k_Mo_group_20 (nI (szO n (z_gI m 10) (z_gI m 16))) (1 : Int32) m1) else ((f_Mo_four (nI (szO n (z_gI m 10) (z_gI m 16))) m1).bind (fun r3 => (e_k_Mo_group_20 (nI (szO n (z_gI m 10) (z_gI m 16))) r3 m1)))) = e_k_Mo_group_20 (nI (szO n (z_gI m 10) (z_gI m 16))) (nI (if n = 129 then z4 (z_gI m 10) (z_gI m 16) else 1)) m1 := by
    rcases hc with rfl | rfl | rfl
    · rfl
    · rw [if_neg (by decide), M_four s8, po_bs2]; rfl
    · rfl
  rw [e0]
  unfold e_k_Mo_group_20
  have nb : 1 ≤ (if n = 129 then z4 (z_gI m 10) (z_gI m 16) else 1) ∧ (if n = 129 then z4 (z_gI m 10) (z_gI m 16) else 1) ≤ 8 := by
    have := z4_in (z_gI m 10) (z_gI m 16)
    split <;> omega
  refine dec_9n hp nb.1 nb.2 (by rw [bn_g hc (TQ_o hp.1), e6, e5]) (fun k2 b hq h9 g6 g5 g13 g8 => ?_)
  rw [M_lowest _ s8, po_bs2]
  have hb : f_Op_bytesOfE k2 = some (nI (szO n (z_gI m 10) (z_gI m 16))) := by
    rw [be_1 n1 (by omega) hq.1.2.2.2.1, g6, g5, e6, e5]
  obtain ⟨r, hr, r1, r2⟩ := MR_reg hq.2.1
  have go : ∀ how : Int32, (how = if r = 7 then 0 else 1) → z_r k0 ((f_Op_open k2).bind S2) (e_k_Mo_group_49 (nI (szO n (z_gI m 10) (z_gI m 16))) (b.1 &&& mk (szO n (z_gI m 10) (z_gI m 16))) (z_gI b.2 8) (nI (szO n (z_gI m 10) (z_gI m 16))) how b.2) FQQ := by
    intro how hhow
    unfold e_k_Mo_group_49
    refine run_e (by omega) n4 hq (by rw [hhow]; split <;> simp) s1 s8 hb (fun k' e e13 => ?_) (fun k3 m3 v q1 q2 q3 q4 q5 q6 q7 q8 q9 q10 => ?_)
    · have : f_Op_isWritten k' = k_Op_isWritten_272 k' := by
        rcases hc with rfl | rfl | rfl <;> (unfold f_Op_isWritten; rw [e]; rfl)
      rw [this, hhow]
      unfold k_Op_isWritten_272
      rw [e13, r1]
      by_cases c : r = 7
      · rw [if_pos ((nI_r8 hr).2.2.2.2.2.2.2.mpr c), if_pos c]; rfl
      · rw [if_neg (fun x => c ((nI_r8 hr).2.2.2.2.2.2.2.mp x)), if_neg c]; rfl
    · refine ex_1 n1 n5 n6 q5 ?_
      have eo : f_On_execute k3 = (f_On_combine (z_gI k3 13) 3 k3).bind k_On_execute_223 := by
        rcases hc with rfl | rfl | rfl <;> (unfold f_On_execute; rw [q5]; rfl)
      rw [eo, q8, r1, r2]
      unfold f_On_combine
      rw [K_szO n1 q5, q6, q7, g6, g5, e6, e5, po_bs2, if_neg (by decide), if_neg (by decide), q3, po_bs2]
      unfold k_On_combine_45
      rw [if_neg (by decide), if_neg (by decide), q9, h9]
      exact comb_E q1.1 q1.2.1 q2 hr s1 s8 (Or.inr rfl) (em_r _ _) (em_low _ s8) (c7 := fun q => z_gI q 8 = (7 : Int32)) (fun k' m' hF => by
        show z_gI m' 8 = 7 ↔ _
        rw [fr_I hF.2.1 8 (by decide), fr_I q10 8 (by decide), r2]
        exact (nI_r8 hr).2.2.2.2.2.2.2)
  by_cases c : r = 7
  · rw [if_pos (by rw [r2]; exact (nI_r8 hr).2.2.2.2.2.2.2.mpr c)]
    exact go 0 (by rw [if_pos c])
  · rw [if_neg (fun x => c ((nI_r8 hr).2.2.2.2.2.2.2.mp (r2.symm.trans x)))]
    exact go 1 (by rw [if_neg c])
theorem g_testn {k0 k m : z_Sg} {n : Nat} (hc : n = 168 ∨ n = 169) (h : TQ (nI n) k0 k m) : z_r k0 ((k_De_decode_43 (-1) (nI (foT n)) k).bind S1) (e_f_Mo_testNumber (nI (szO n (z_gI m 10) (z_gI m 16))) m) FQQ := by
  have gen : ∀ n, n = 168 ∨ n = 169 → n < 256 ∧ flE n = true ∧ srE n = true ∧ onE n = true ∧ (¬ nI (foT n) = 0 ∧ (nI (foT n) &&& (4 : Int32)) = 0 ∧ (nI (foT n) &&& (2 : Int32)) = 0) ∧ ¬ n / 8 = 57 := by
    rintro n (rfl | rfl) <;> decide
  obtain ⟨n1, n5, n6, n7, ⟨t1, t2, t3⟩, n8⟩ := gen n hc
  obtain ⟨s1, s8⟩ := szO_in n (z_gI m 10) (z_gI m 16)
  obtain ⟨x6, x5⟩ := TQ_x h
  unfold e_f_Mo_testNumber
  rw [M_four s8, po_bs2]
  refine dec_xn h t1 t3 (tis (Or.inr t2) (by rw [TQ_o h]; exact o_bs (by omega) n8)) (by omega) (by omega) ?_ (fun k' b hp h3 h9 g6 g5 => ?_)
  · rcases hc with rfl | rfl
    · exact bn_1 (by decide)
    · refine (bn_z (t := nI (foT 169)) (k := z_sI k 12 3) (by decide) (by rw [show z_gI (z_sI k 12 3) 11 = nI 169 from TQ_o h]; decide) (by rw [show z_gI (z_sI k 12 3) 11 = nI 169 from TQ_o h]; decide)).trans ?_
      show some (nI (z4 (z_gI k 6) (z_gI k 5))) = _
      rw [x6, x5]; rfl
  · have ho3 : z_gI k' 11 = nI n := hp.2.2.2.1
    refine ex_1 n1 n5 n6 ho3 ?_
    rw [on_215 n1 n7 ho3, g6, g5, x6, x5]
    have ee : ∀ x, f_On_executeSingle x k' = k_On_executeSingle_237 x k' := by
      intro x
      rcases hc with rfl | rfl <;> (unfold f_On_executeSingle; rw [ho3]; rfl)
    rw [ee]
    unfold k_On_executeSingle_237
    obtain ⟨gv, gv1, gv2, gv3⟩ := get_r (j := 0) hp.1.1 (by decide) s1 s8
    obtain ⟨k4, m4, w1, w2, w3⟩ := logic_r hp.1.2.1 (EQn_L hp.1.1 (by decide)) s1 s8 (em_and (em_r _ gv) (em_low b.1 s8))
    have gv1' : f_Op_part 0 (nI (szO n (z_gI m 10) (z_gI m 16))) k' = some gv := gv1
    rw [gv1', po_bs2, h9, w1]
    refine r_M gv2 (r_M (M_lowest _ s8 _) (r_M w2 ?_))
    exact fin1 (EQ_FU hp.1 w3)
theorem g_movn {k0 k m : z_Sg} {n : Nat} (hc : n = 198 ∨ n = 199) (h : TQ (nI n) k0 k m) : z_r k0 ((k_De_decode_43 (-1) (nI (foT n)) k).bind S1) (e_f_Mo_moveNumber (nI (szO n (z_gI m 10) (z_gI m 16))) m) FQQ := by
  have gen : ∀ n, n = 198 ∨ n = 199 → n < 256 ∧ eE n = true ∧ flE n = true ∧ srE n = true ∧ onE n = true ∧ (¬ nI (foT n) = 0 ∧ (nI (foT n) &&& (4 : Int32)) = 0 ∧ ¬ (nI (foT n) &&& (2 : Int32)) = 0) ∧ ¬ n / 8 = 57 := by
    rintro n (rfl | rfl) <;> decide
  obtain ⟨n1, n4, n5, n6, n7, ⟨t1, t2, t3⟩, n8⟩ := gen n hc
  obtain ⟨s1, s8⟩ := szO_in n (z_gI m 10) (z_gI m 16)
  obtain ⟨x6, x5⟩ := TQ_x h
  unfold e_f_Mo_moveNumber
  refine dec_mm h t1 (tis (Or.inr t2) (by rw [TQ_o h]; exact o_bs (by omega) n8)) t3 (fun k1 m1 h1 hM e6 e5 _ => ?_)
  obtain ⟨r, hr, r1, r2⟩ := MR_reg hM
  have et : f_De_isToldWithModrm k1 = k_De_isToldWithModrm_150 k1 := by
    rcases hc with rfl | rfl <;> (unfold f_De_isToldWithModrm; rw [TQ_o h1]; rfl)
  by_cases c : r = 0
  · have e8 : z_gI m1 8 = 0 := by rw [r2, c]; rfl
    have e13 : z_gI k1 13 = 0 := by rw [r1, c]; rfl
    rw [if_pos e8]
    refine told (by rw [et]; unfold k_De_isToldWithModrm_150; rw [if_pos e13]; rfl) ?_
    unfold e_k_Mo_moveNumber_17
    refine dec_mp h1 hM (fun k2 m2 hp g6 g5 g13 g8 => ?_)
    rw [M_four s8, po_bs2]
    have hbn : f_De_bytesOfNumber (nI (foT n)) k2 = some (nI (min (szO n (z_gI m 10) (z_gI m 16)) 4)) := by
      have o2 := TQ_o hp.1
      rcases hc with rfl | rfl
      · exact bn_1 (by decide)
      · refine (bn_z (t := nI (foT 199)) (k := k2) (by decide) (by rw [o2]; decide) (by rw [o2]; decide)).trans ?_
        rw [g6, g5, e6, e5, x6, x5]; rfl
    refine dec_9n hp (by omega) (by omega) hbn (fun k3 b hq h9 i6 i5 i13 i8 => ?_)
    have hb : f_Op_bytesOfE k3 = some (nI (szO n (z_gI m 10) (z_gI m 16))) := by
      rw [be_1 n1 (by omega) hq.1.2.2.2.1, i6, i5, g6, g5, e6, e5, x6, x5]
    refine run_e (by omega) n4 hq (Or.inr rfl) s1 s8 hb (fun k' e _ => ?_) (fun k4 m4 v q1 q2 q3 q4 q5 q6 q7 q8 q9 q10 => ?_)
    · rcases hc with rfl | rfl <;> (unfold f_Op_isWritten; rw [e]; rfl)
    · refine ex_1 n1 n5 n6 q5 ?_
      rw [on_215 n1 n7 q5]
      have ee : ∀ x, f_On_executeSingle x k4 = (k_On_move_310 k4).bind k_On_executeSingle_432 := by
        intro x
        rcases hc with rfl | rfl <;> (unfold f_On_executeSingle f_On_move; rw [q5]; rfl)
      rw [ee]
      unfold k_On_move_310
      obtain ⟨k5, m5, w1, w2, w3, _⟩ := wE q1.1 q1.2.1 q2 s1 s8 (em_r _ b.1)
      rw [q9, h9, w1]
      exact r_M w2 (fin1 w3)
  · have e8 : ¬ z_gI m1 8 = 0 := by rw [r2]; exact fun x => c ((nI_r8 hr).1.mp x)
    have e13 : ¬ z_gI k1 13 = 0 := by rw [r1]; exact fun x => c ((nI_r8 hr).1.mp x)
    rw [if_neg e8]
    exact untold (by rw [et]; unfold k_De_isToldWithModrm_150; rw [if_neg e13]; rfl) h1.2.1 h1.1
theorem dec_mp2 {β : Type} {o t : Int32} {k0 k m : z_Sg} (h : TQ o k0 k m) (hM : MR k m) {l : z_Sg → Option (Sum z_Dd β)} {Q : z_Sg → β → Prop} (ha : ∀ k' m', P9 o k0 k' m' → z_gI k' 6 = z_gI k 6 → z_gI k' 5 = z_gI k 5 → z_gI k' 13 = z_gI k 13 → z_gI m' 8 = z_gI m 8 → z_gI k' 12 = z_gI k 12 → z_r k0 ((k_De_decode_93 (-1) t k').bind S1) (l m') Q) : z_r k0 ((k_De_decode_75 (-1) t k).bind S1) (z_eb (e_f_Mo_takePlace m) l) Q := by
  refine dec_p h.2.1 h.1 hM (fun k' m' hp hk' => ?_)
  obtain ⟨p1, p2, p3, p4, p5⟩ := hp
  refine ha k' m' ⟨⟨p1, hk', ?_, FB_fr h.2.2.2 p5 (by decide)⟩, p2, p3⟩ (fr_I p4 6 (by decide)) (fr_I p4 5 (by decide)) (fr_I p4 13 (by decide)) (fr_I p5 8 (by decide)) (fr_I p4 12 (by decide))
  rw [fr_I p4 11 (by decide)]; exact h.2.2.1
theorem dec_902 {β : Type} {o t : Int32} {k0 k m : z_Sg} (h : P9 o k0 k m) (hg : z_gL m 7 = z_gL m 0 + (z_gI m 6).toInt64) (hb : f_De_bytesOfNumber t k = some 0) {y : Option (Sum z_Dd β)} {Q : z_Sg → β → Prop} (ha : ∀ k', PO o k0 k' m → z_gL k' 9 = 0 → z_gI k' 6 = z_gI k 6 → z_gI k' 5 = z_gI k 5 → z_gI k' 13 = z_gI k 13 → z_gI k' 12 = z_gI k 12 → z_r k0 ((f_Op_open k').bind S2) y Q) : z_r k0 ((k_De_decode_93 (-1) t k).bind S1) y Q := by
  refine dec9_0 (TQ_k h.1) (TQ_d h.1) hb (fun k' hd h9 hk' => ?_)
  exact ha k' (P9_9 h hd (by rw [hd.2.1, hg])) h9 (fr_I hd.2.2.1 6 (by decide)) (fr_I hd.2.2.1 5 (by decide)) (fr_I hd.2.2.1 13 (by decide)) (fr_I hd.2.2.1 12 (by decide))
theorem g_lea {k0 k m : z_Sg} (h : TQ (nI 141) k0 k m) : z_r k0 ((k_De_decode_43 (-1) 2 k).bind S1) (e_f_Mo_address m) FQQ := by
  obtain ⟨x6, x5⟩ := TQ_x h
  unfold e_f_Mo_address
  refine dec_mm h (by decide) (tis (Or.inr (by decide)) (by rw [TQ_o h]; decide)) (by decide) (fun k1 m1 h1 hM e6 e5 _ => ?_)
  have et : f_De_isToldWithModrm k1 = if z_gI k1 12 = 3 then some 0 else some 1 := by
    unfold f_De_isToldWithModrm
    rw [TQ_o h1]; rfl
  by_cases c3 : z_gI k1 12 = 3
  · rw [if_pos ((MR_3 hM).mp c3)]
    exact untold (by rw [et, if_pos c3]) h1.2.1 h1.1
  · rw [if_neg (fun x => c3 ((MR_3 hM).mpr x))]
    refine told (by rw [et, if_neg c3]) ?_
    unfold e_k_Mo_address_18
    refine dec_mp2 h1 hM (fun k2 m2 hp g6 g5 g13 g8 g12 => ?_)
    rw [po_nm2]
    refine dec_902 (P9_g hp (z_gL m2 0 + (z_gI m2 6).toInt64)) rfl (bn_0 (by decide) (by rw [TQ_o hp.1]; decide) (by rw [TQ_o hp.1]; decide)) (fun k3 hq _ i6 i5 _ i12 => ?_)
    have hz := szV_8 (z_gI m 10) (z_gI m 16)
    obtain ⟨z6, z5⟩ := PO_sz hq
    have w6 : z_gI k3 6 = z_gI m 10 := by rw [i6, g6, e6, x6]
    have w5 : z_gI k3 5 = z_gI m 16 := by rw [i5, g5, e5, x5]
    rw [M_wide, po_bs2, ← z6, ← z5, w6, w5]
    have go : ∀ a, z_r k0 (k_Co_step_21 (-1) (z_sI k3 15 a)) ((f_Mo_place (z_sL m2 7 (z_gL m2 0 + (z_gI m2 6).toInt64))).bind (fun r7 => (f_Mo_setG (nI (szV (z_gI m 10) (z_gI m 16))) r7 (z_sL m2 7 (z_gL m2 0 + (z_gI m2 6).toInt64))).bind (fun r8 => (k_Mo_address_56 r8).bind (fun o => some (.inr o))))) FQQ := by
      intro a
      have q1 := PR_15 hq.1 a
      have hM' : MR (z_sI k3 15 a) (z_sL m2 7 (z_gL m2 0 + (z_gI m2 6).toInt64)) := hq.2.1
      refine ex_1 (n := 141) (by decide) (by decide) (by decide) q1.2.2.2.1 ?_
      rw [on_215 (n := 141) (by decide) (by decide) q1.2.2.2.1]
      have ee : ∀ x, f_On_executeSingle x (z_sI k3 15 a) = ((f_De_placeOfE (0 : Int64) (z_sI k3 15 a)).bind (fun r20 => (f_Op_putG r20 x (z_sI k3 15 a)).bind (fun r21 => k_On_move_327 r21))).bind k_On_executeSingle_432 := by
        intro x
        unfold f_On_executeSingle f_On_move
        rw [q1.2.2.2.1]; rfl
      rw [ee]
      have es : szO 141 (z_gI (z_sI k3 15 a) 6) (z_gI (z_sI k3 15 a) 5) = szV (z_gI m 10) (z_gI m 16) := by
        show szV (z_gI k3 6) (z_gI k3 5) = _
        rw [w6, w5]
      rw [es]
      rcases hq.2.2.1 with c | hP
      · exact absurd (by rw [← g12, ← i12]; exact c) c3
      · have hP' : PLr (z_sI k3 15 a) (z_sL m2 7 (z_gL m2 0 + (z_gI m2 6).toInt64)) := hP
        obtain ⟨p, p1, p2⟩ := place_0 hP' (fun i hi => EQn_r q1.1.1 hi) hq.2.2.2
        obtain ⟨k5, m5, w1, w2, w3, _⟩ := wG q1.1 hM' hz.1 hz.2 (em_r _ p)
        rw [p1, po_bs2, w1]
        exact r_M p2 (r_M w2 (fin1 w3))
    unfold f_Op_open
    rw [Option.bind_assoc]
    refine r_pK (R := fun _ => True) (fun _ _ => trivial) (fun a _ => ?_)
    rw [po_nm2]
    by_cases d3 : z_gI (z_sI k3 15 a) 12 = 3
    · rw [if_pos d3]; exact go a
    · rw [if_neg d3, if_pos (show z_gI (z_sI k3 15 a) 11 = 141 from hq.1.2.2.2.1)]; exact go a
