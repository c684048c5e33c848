set_option maxHeartbeats 4000000 in
set_option maxRecDepth 100000 in
theorem d_k_Mo_far_13 (q0 : z_Sg) (x1 : Int32) (q : z_Sg) (hq : z_pn q = z_pn q0) (hd : ¬ z_gI q0 4 = -1) : z_po (k_Mo_far_13 x1 q) (fun o : z_Sg => z_pn o = z_pn q0) := by
  unfold k_Mo_far_13
  refine po_i (fun _ => ?_) (fun _ => ?_)
  ·
    exact d_k_Mo_far_26 q0 x1 (1 : Int32) q hq hd
  ·
    exact d_k_Mo_far_26 q0 x1 (4 : Int32) q hq hd
set_option maxHeartbeats 4000000 in
set_option maxRecDepth 100000 in
theorem m_f_Mo_far (q0 : z_Sg) (x1 : Int32) (q : z_Sg) (hq : z_pk q = z_pk q0) : z_po (f_Mo_far x1 q) (fun o : z_Sg => z_pk o = z_pk q0) := by
  unfold f_Mo_far
  refine po_i (fun _ => ?_) (fun _ => ?_)
  ·
    exact m_k_Mo_far_13 q0 x1 q hq
  ·
    refine po_b (m_f_Mo_refuse q0 (6 : Int32) q hq) (fun r9 h_r9 => ?_)
    exact m_k_Mo_far_13 q0 x1 r9 h_r9
set_option maxHeartbeats 4000000 in
set_option maxRecDepth 100000 in
theorem d_f_Mo_far (q0 : z_Sg) (x1 : Int32) (q : z_Sg) (hq : z_pn q = z_pn q0) (hd : ¬ z_gI q0 4 = -1) : z_po (f_Mo_far x1 q) (fun o : z_Sg => z_pn o = z_pn q0) := by
  unfold f_Mo_far
  refine po_i (fun _ => ?_) (fun _ => ?_)
  ·
    exact d_k_Mo_far_13 q0 x1 q hq hd
  ·
    refine po_b (d_f_Mo_refuse q0 (6 : Int32) q hq hd) (fun r9 h_r9 => ?_)
    exact d_k_Mo_far_13 q0 x1 r9 h_r9 hd
set_option maxHeartbeats 4000000 in
set_option maxRecDepth 100000 in
theorem m_k_Mo_leaveFrame_13 (q0 : z_Sg) (q : z_Sg) (hq : z_pk q = z_pk q0) : z_po (k_Mo_leaveFrame_13 q) (fun o : z_Sg => z_pk o = z_pk q0) := by
  unfold k_Mo_leaveFrame_13
  refine po_g (fun _ => ?_)
  refine po_g (fun _ => ?_)
  refine po_n (fun q4 e_q4 => ?_)
  have h_q4 : z_pk q4 = z_pk q0 := by rw [e_q4]; exact hq
  refine po_b (m_f_Mo_pop q0 (8 : Int32) q4 h_q4) (fun r5 h_r5 => ?_)
  refine po_g (fun _ => ?_)
  refine po_n (fun q7 e_q7 => ?_)
  have h_q7 : z_pk q7 = z_pk q0 := by rw [e_q7]; exact h_r5
  exact po_s h_q7
set_option maxHeartbeats 4000000 in
set_option maxRecDepth 100000 in
theorem d_k_Mo_leaveFrame_13 (q0 : z_Sg) (q : z_Sg) (hq : z_pn q = z_pn q0) (hd : ¬ z_gI q0 4 = -1) : z_po (k_Mo_leaveFrame_13 q) (fun o : z_Sg => z_pn o = z_pn q0) := by
  unfold k_Mo_leaveFrame_13
  refine po_g (fun _ => ?_)
  refine po_g (fun _ => ?_)
  refine po_n (fun q4 e_q4 => ?_)
  have h_q4 : z_pn q4 = z_pn q0 := by rw [e_q4]; exact hq
  refine po_b (d_f_Mo_pop q0 (8 : Int32) q4 h_q4 hd) (fun r5 h_r5 => ?_)
  refine po_g (fun _ => ?_)
  refine po_n (fun q7 e_q7 => ?_)
  have h_q7 : z_pn q7 = z_pn q0 := by rw [e_q7]; exact h_r5
  exact po_s h_q7
set_option maxHeartbeats 4000000 in
set_option maxRecDepth 100000 in
theorem m_f_Mo_leaveFrame (q0 : z_Sg) (q : z_Sg) (hq : z_pk q = z_pk q0) : z_po (f_Mo_leaveFrame q) (fun o : z_Sg => z_pk o = z_pk q0) := by
  unfold f_Mo_leaveFrame
  refine po_i (fun _ => ?_) (fun _ => ?_)
  ·
    exact m_k_Mo_leaveFrame_13 q0 q hq
  ·
    refine po_b (m_f_Mo_refuse q0 (6 : Int32) q hq) (fun r8 h_r8 => ?_)
    exact m_k_Mo_leaveFrame_13 q0 r8 h_r8
set_option maxHeartbeats 4000000 in
set_option maxRecDepth 100000 in
theorem d_f_Mo_leaveFrame (q0 : z_Sg) (q : z_Sg) (hq : z_pn q = z_pn q0) (hd : ¬ z_gI q0 4 = -1) : z_po (f_Mo_leaveFrame q) (fun o : z_Sg => z_pn o = z_pn q0) := by
  unfold f_Mo_leaveFrame
  refine po_i (fun _ => ?_) (fun _ => ?_)
  ·
    exact d_k_Mo_leaveFrame_13 q0 q hq hd
  ·
    refine po_b (d_f_Mo_refuse q0 (6 : Int32) q hq hd) (fun r8 h_r8 => ?_)
    exact d_k_Mo_leaveFrame_13 q0 r8 h_r8 hd
set_option maxHeartbeats 4000000 in
set_option maxRecDepth 100000 in
theorem m_k_Mo_popOperand_17 (q0 : z_Sg) (q : z_Sg) (hq : z_pk q = z_pk q0) : z_po (k_Mo_popOperand_17 q) (fun o : z_Sg => z_pk o = z_pk q0) := by
  unfold k_Mo_popOperand_17
  refine po_b (m_f_Mo_takePlace q0 q hq) (fun r3 h_r3 => ?_)
  refine po_n (fun q4 e_q4 => ?_)
  have h_q4 : z_pk q4 = z_pk q0 := by rw [e_q4]; exact h_r3
  refine po_b (R := fun _ => True) (fun _ _ => trivial) (fun r5 _ => ?_)
  refine po_b (m_f_Mo_pop q0 r5 q4 h_q4) (fun r6 h_r6 => ?_)
  refine po_b (R := fun _ => True) (fun _ _ => trivial) (fun r7 _ => ?_)
  refine po_b (m_f_Mo_e q0 r7 (1 : Int32) r6.2 h_r6) (fun r8 h_r8 => ?_)
  refine po_b (R := fun _ => True) (fun _ _ => trivial) (fun r9 _ => ?_)
  refine po_b (m_f_Mo_setE q0 r9 r6.1 r8.2 h_r8) (fun r10 h_r10 => ?_)
  exact po_s h_r10
set_option maxHeartbeats 4000000 in
set_option maxRecDepth 100000 in
theorem d_k_Mo_popOperand_17 (q0 : z_Sg) (q : z_Sg) (hq : z_pn q = z_pn q0) (hd : ¬ z_gI q0 4 = -1) : z_po (k_Mo_popOperand_17 q) (fun o : z_Sg => z_pn o = z_pn q0) := by
  unfold k_Mo_popOperand_17
  refine po_b (d_f_Mo_takePlace q0 q hq hd) (fun r3 h_r3 => ?_)
  refine po_n (fun q4 e_q4 => ?_)
  have h_q4 : z_pn q4 = z_pn q0 := by rw [e_q4]; exact h_r3
  refine po_b (R := fun _ => True) (fun _ _ => trivial) (fun r5 _ => ?_)
  refine po_b (d_f_Mo_pop q0 r5 q4 h_q4 hd) (fun r6 h_r6 => ?_)
  refine po_b (R := fun _ => True) (fun _ _ => trivial) (fun r7 _ => ?_)
  refine po_b (d_f_Mo_e q0 r7 (1 : Int32) r6.2 h_r6 hd) (fun r8 h_r8 => ?_)
  refine po_b (R := fun _ => True) (fun _ _ => trivial) (fun r9 _ => ?_)
  refine po_b (d_f_Mo_setE q0 r9 r6.1 r8.2 h_r8) (fun r10 h_r10 => ?_)
  exact po_s h_r10
set_option maxHeartbeats 4000000 in
set_option maxRecDepth 100000 in
theorem m_f_Mo_popOperand (q0 : z_Sg) (q : z_Sg) (hq : z_pk q = z_pk q0) : z_po (f_Mo_popOperand q) (fun o : z_Sg => z_pk o = z_pk q0) := by
  unfold f_Mo_popOperand
  refine po_b (m_f_Mo_takeMod q0 q hq) (fun r1 h_r1 => ?_)
  refine po_i (fun _ => ?_) (fun _ => ?_)
  ·
    exact m_k_Mo_popOperand_17 q0 r1 h_r1
  ·
    refine po_b (m_f_Mo_refuse q0 (6 : Int32) r1 h_r1) (fun r11 h_r11 => ?_)
    exact m_k_Mo_popOperand_17 q0 r11 h_r11
set_option maxHeartbeats 4000000 in
set_option maxRecDepth 100000 in
theorem d_f_Mo_popOperand (q0 : z_Sg) (q : z_Sg) (hq : z_pn q = z_pn q0) (hd : ¬ z_gI q0 4 = -1) : z_po (f_Mo_popOperand q) (fun o : z_Sg => z_pn o = z_pn q0) := by
  unfold f_Mo_popOperand
  refine po_b (d_f_Mo_takeMod q0 q hq hd) (fun r1 h_r1 => ?_)
  refine po_i (fun _ => ?_) (fun _ => ?_)
  ·
    exact d_k_Mo_popOperand_17 q0 r1 h_r1 hd
  ·
    refine po_b (d_f_Mo_refuse q0 (6 : Int32) r1 h_r1 hd) (fun r11 h_r11 => ?_)
    exact d_k_Mo_popOperand_17 q0 r11 h_r11 hd
set_option maxHeartbeats 4000000 in
set_option maxRecDepth 100000 in
theorem m_k_Mo_address_56 (q0 : z_Sg) (q : z_Sg) (hq : z_pk q = z_pk q0) : z_po (k_Mo_address_56 q) (fun o : z_Sg => z_pk o = z_pk q0) := by
  unfold k_Mo_address_56
  exact po_s hq
set_option maxHeartbeats 4000000 in
set_option maxRecDepth 100000 in
theorem d_k_Mo_address_56 (q0 : z_Sg) (q : z_Sg) (hq : z_pn q = z_pn q0) : z_po (k_Mo_address_56 q) (fun o : z_Sg => z_pn o = z_pn q0) := by
  unfold k_Mo_address_56
  exact po_s hq
set_option maxHeartbeats 4000000 in
set_option maxRecDepth 100000 in
theorem m_k_Mo_address_18 (q0 : z_Sg) (q : z_Sg) (hq : z_pk q = z_pk q0) : z_po (k_Mo_address_18 q) (fun o : z_Sg => z_pk o = z_pk q0) := by
  unfold k_Mo_address_18
  refine po_b (m_f_Mo_takePlace q0 q hq) (fun r3 h_r3 => ?_)
  refine po_n (fun q4 e_q4 => ?_)
  have h_q4 : z_pk q4 = z_pk q0 := by rw [e_q4]; exact h_r3
  refine po_i (fun _ => ?_) (fun _ => ?_)
  ·
    refine po_b (R := fun _ => True) (fun _ _ => trivial) (fun r6 _ => ?_)
    refine po_b (R := fun _ => True) (fun _ _ => trivial) (fun r7 _ => ?_)
    refine po_b (m_f_Mo_setG q0 r6 r7 q4 h_q4) (fun r8 h_r8 => ?_)
    exact m_k_Mo_address_56 q0 r8 h_r8
  ·
    exact m_k_Mo_address_56 q0 q4 h_q4
set_option maxHeartbeats 4000000 in
set_option maxRecDepth 100000 in
theorem d_k_Mo_address_18 (q0 : z_Sg) (q : z_Sg) (hq : z_pn q = z_pn q0) (hd : ¬ z_gI q0 4 = -1) : z_po (k_Mo_address_18 q) (fun o : z_Sg => z_pn o = z_pn q0) := by
  unfold k_Mo_address_18
  refine po_b (d_f_Mo_takePlace q0 q hq hd) (fun r3 h_r3 => ?_)
  refine po_n (fun q4 e_q4 => ?_)
  have h_q4 : z_pn q4 = z_pn q0 := by rw [e_q4]; exact h_r3
  refine po_f (pn_d h_q4 hd) ?_
  exact d_k_Mo_address_56 q0 q4 h_q4
set_option maxHeartbeats 4000000 in
set_option maxRecDepth 100000 in
theorem m_f_Mo_address (q0 : z_Sg) (q : z_Sg) (hq : z_pk q = z_pk q0) : z_po (f_Mo_address q) (fun o : z_Sg => z_pk o = z_pk q0) := by
  unfold f_Mo_address
  refine po_b (m_f_Mo_takeMod q0 q hq) (fun r1 h_r1 => ?_)
  refine po_i (fun _ => ?_) (fun _ => ?_)
  ·
    refine po_b (m_f_Mo_refuse q0 (6 : Int32) r1 h_r1) (fun r9 h_r9 => ?_)
    exact m_k_Mo_address_18 q0 r9 h_r9
  ·
    exact m_k_Mo_address_18 q0 r1 h_r1
set_option maxHeartbeats 4000000 in
set_option maxRecDepth 100000 in
theorem d_f_Mo_address (q0 : z_Sg) (q : z_Sg) (hq : z_pn q = z_pn q0) (hd : ¬ z_gI q0 4 = -1) : z_po (f_Mo_address q) (fun o : z_Sg => z_pn o = z_pn q0) := by
  unfold f_Mo_address
  refine po_b (d_f_Mo_takeMod q0 q hq hd) (fun r1 h_r1 => ?_)
  refine po_i (fun _ => ?_) (fun _ => ?_)
  ·
    refine po_b (d_f_Mo_refuse q0 (6 : Int32) r1 h_r1 hd) (fun r9 h_r9 => ?_)
    exact d_k_Mo_address_18 q0 r9 h_r9 hd
  ·
    exact d_k_Mo_address_18 q0 r1 h_r1 hd
set_option maxHeartbeats 4000000 in
set_option maxRecDepth 100000 in
theorem m_f_Mo_extend (q0 : z_Sg) (x1 : Int32) (x2 : Int32) (q : z_Sg) (hq : z_pk q = z_pk q0) : z_po (f_Mo_extend x1 x2 q) (fun o : z_Sg => z_pk o = z_pk q0) := by
  unfold f_Mo_extend
  refine po_b (m_f_Mo_takeOperand q0 q hq) (fun r1 h_r1 => ?_)
  refine po_b (m_f_Mo_e q0 x2 (0 : Int32) r1 h_r1) (fun r2 h_r2 => ?_)
  refine po_b (R := fun _ => True) (fun _ _ => trivial) (fun r3 _ => ?_)
  refine po_b (m_f_Mo_setG q0 x1 r3 r2.2 h_r2) (fun r4 h_r4 => ?_)
  exact po_s h_r4
set_option maxHeartbeats 4000000 in
set_option maxRecDepth 100000 in
theorem d_f_Mo_extend (q0 : z_Sg) (x1 : Int32) (x2 : Int32) (q : z_Sg) (hq : z_pn q = z_pn q0) (hd : ¬ z_gI q0 4 = -1) : z_po (f_Mo_extend x1 x2 q) (fun o : z_Sg => z_pn o = z_pn q0) := by
  unfold f_Mo_extend
  refine po_b (d_f_Mo_takeOperand q0 q hq hd) (fun r1 h_r1 => ?_)
  refine po_b (d_f_Mo_e q0 x2 (0 : Int32) r1 h_r1 hd) (fun r2 h_r2 => ?_)
  refine po_b (R := fun _ => True) (fun _ _ => trivial) (fun r3 _ => ?_)
  refine po_b (d_f_Mo_setG q0 x1 r3 r2.2 h_r2) (fun r4 h_r4 => ?_)
  exact po_s h_r4
set_option maxHeartbeats 4000000 in
set_option maxRecDepth 100000 in
theorem m_k_Mo_others_261 (q0 : z_Sg) (q : z_Sg) (hq : z_pk q = z_pk q0) : z_po (k_Mo_others_261 q) (fun o : z_Sg => z_pk o = z_pk q0) := by
  unfold k_Mo_others_261
  exact po_s hq
set_option maxHeartbeats 4000000 in
set_option maxRecDepth 100000 in
theorem d_k_Mo_others_261 (q0 : z_Sg) (q : z_Sg) (hq : z_pn q = z_pn q0) : z_po (k_Mo_others_261 q) (fun o : z_Sg => z_pn o = z_pn q0) := by
  unfold k_Mo_others_261
  exact po_s hq
set_option maxHeartbeats 4000000 in
set_option maxRecDepth 100000 in
theorem m_k_Mo_others_42 (q0 : z_Sg) (x1 : Int32) (q : z_Sg) (hq : z_pk q = z_pk q0) : z_po (k_Mo_others_42 x1 q) (fun o : z_Sg => z_pk o = z_pk q0) := by
  unfold k_Mo_others_42
  refine po_b (m_f_Mo_pushNumber q0 x1 q hq) (fun r3 h_r3 => ?_)
  exact m_k_Mo_others_261 q0 r3 h_r3
set_option maxHeartbeats 4000000 in
set_option maxRecDepth 100000 in
theorem d_k_Mo_others_42 (q0 : z_Sg) (x1 : Int32) (q : z_Sg) (hq : z_pn q = z_pn q0) (hd : ¬ z_gI q0 4 = -1) : z_po (k_Mo_others_42 x1 q) (fun o : z_Sg => z_pn o = z_pn q0) := by
  unfold k_Mo_others_42
  refine po_b (d_f_Mo_pushNumber q0 x1 q hq hd) (fun r3 h_r3 => ?_)
  exact d_k_Mo_others_261 q0 r3 h_r3
set_option maxHeartbeats 4000000 in
set_option maxRecDepth 100000 in
theorem m_k_Mo_others_62 (q0 : z_Sg) (x1 : Int32) (q : z_Sg) (hq : z_pk q = z_pk q0) : z_po (k_Mo_others_62 x1 q) (fun o : z_Sg => z_pk o = z_pk q0) := by
  unfold k_Mo_others_62
  refine po_b (m_f_Mo_product q0 x1 q hq) (fun r6 h_r6 => ?_)
  exact m_k_Mo_others_261 q0 r6 h_r6
set_option maxHeartbeats 4000000 in
set_option maxRecDepth 100000 in
theorem d_k_Mo_others_62 (q0 : z_Sg) (x1 : Int32) (q : z_Sg) (hq : z_pn q = z_pn q0) (hd : ¬ z_gI q0 4 = -1) : z_po (k_Mo_others_62 x1 q) (fun o : z_Sg => z_pn o = z_pn q0) := by
  unfold k_Mo_others_62
  refine po_b (d_f_Mo_product q0 x1 q hq hd) (fun r6 h_r6 => ?_)
  exact d_k_Mo_others_261 q0 r6 h_r6
set_option maxHeartbeats 4000000 in
set_option maxRecDepth 100000 in
theorem m_k_Mo_others_160 (q0 : z_Sg) (x2 : Int32) (q : z_Sg) (hq : z_pk q = z_pk q0) : z_po (k_Mo_others_160 x2 q) (fun o : z_Sg => z_pk o = z_pk q0) := by
  unfold k_Mo_others_160
  refine po_b (m_f_Mo_testNumber q0 x2 q hq) (fun r13 h_r13 => ?_)
  exact m_k_Mo_others_261 q0 r13 h_r13
set_option maxHeartbeats 4000000 in
set_option maxRecDepth 100000 in
theorem d_k_Mo_others_160 (q0 : z_Sg) (x2 : Int32) (q : z_Sg) (hq : z_pn q = z_pn q0) (hd : ¬ z_gI q0 4 = -1) : z_po (k_Mo_others_160 x2 q) (fun o : z_Sg => z_pn o = z_pn q0) := by
  unfold k_Mo_others_160
  refine po_b (d_f_Mo_testNumber q0 x2 q hq hd) (fun r13 h_r13 => ?_)
  exact d_k_Mo_others_261 q0 r13 h_r13
set_option maxHeartbeats 4000000 in
set_option maxRecDepth 100000 in
theorem m_k_Mo_others_182 (q0 : z_Sg) (x1 : Int32) (q : z_Sg) (hq : z_pk q = z_pk q0) : z_po (k_Mo_others_182 x1 q) (fun o : z_Sg => z_pk o = z_pk q0) := by
  unfold k_Mo_others_182
  refine po_b (m_f_Mo_returns q0 x1 q hq) (fun r16 h_r16 => ?_)
  exact m_k_Mo_others_261 q0 r16 h_r16
set_option maxHeartbeats 4000000 in
set_option maxRecDepth 100000 in
theorem d_k_Mo_others_182 (q0 : z_Sg) (x1 : Int32) (q : z_Sg) (hq : z_pn q = z_pn q0) (hd : ¬ z_gI q0 4 = -1) : z_po (k_Mo_others_182 x1 q) (fun o : z_Sg => z_pn o = z_pn q0) := by
  unfold k_Mo_others_182
  refine po_b (d_f_Mo_returns q0 x1 q hq hd) (fun r16 h_r16 => ?_)
  exact d_k_Mo_others_261 q0 r16 h_r16
set_option maxHeartbeats 4000000 in
set_option maxRecDepth 100000 in
theorem m_k_Mo_others_204 (q0 : z_Sg) (x2 : Int32) (q : z_Sg) (hq : z_pk q = z_pk q0) : z_po (k_Mo_others_204 x2 q) (fun o : z_Sg => z_pk o = z_pk q0) := by
  unfold k_Mo_others_204
  refine po_b (m_f_Mo_moveNumber q0 x2 q hq) (fun r19 h_r19 => ?_)
  exact m_k_Mo_others_261 q0 r19 h_r19
set_option maxHeartbeats 4000000 in
set_option maxRecDepth 100000 in
theorem d_k_Mo_others_204 (q0 : z_Sg) (x2 : Int32) (q : z_Sg) (hq : z_pn q = z_pn q0) (hd : ¬ z_gI q0 4 = -1) : z_po (k_Mo_others_204 x2 q) (fun o : z_Sg => z_pn o = z_pn q0) := by
  unfold k_Mo_others_204
  refine po_b (d_f_Mo_moveNumber q0 x2 q hq hd) (fun r19 h_r19 => ?_)
  exact d_k_Mo_others_261 q0 r19 h_r19
set_option maxHeartbeats 4000000 in
set_option maxRecDepth 100000 in
theorem m_k_Mo_others_247 (q0 : z_Sg) (x1 : Int32) (q : z_Sg) (hq : z_pk q = z_pk q0) : z_po (k_Mo_others_247 x1 q) (fun o : z_Sg => z_pk o = z_pk q0) := by
  unfold k_Mo_others_247
  refine po_b (m_f_Mo_far q0 x1 q hq) (fun r23 h_r23 => ?_)
  exact m_k_Mo_others_261 q0 r23 h_r23
set_option maxHeartbeats 4000000 in
set_option maxRecDepth 100000 in
theorem d_k_Mo_others_247 (q0 : z_Sg) (x1 : Int32) (q : z_Sg) (hq : z_pn q = z_pn q0) (hd : ¬ z_gI q0 4 = -1) : z_po (k_Mo_others_247 x1 q) (fun o : z_Sg => z_pn o = z_pn q0) := by
  unfold k_Mo_others_247
  refine po_b (d_f_Mo_far q0 x1 q hq hd) (fun r23 h_r23 => ?_)
  exact d_k_Mo_others_261 q0 r23 h_r23
set_option maxHeartbeats 4000000 in
set_option maxRecDepth 100000 in
theorem m_k_Mo_others_24 (q0 : z_Sg) (t1 : Int32) (t2 : Int32) (q : z_Sg) (hq : z_pk q = z_pk q0) : z_po (k_Mo_others_24 t1 t2 q) (fun o : z_Sg => z_pk o = z_pk q0) := by
  unfold k_Mo_others_24
  refine po_b (m_f_Mo_extend q0 t1 t2 q hq) (fun r39 h_r39 => ?_)
  exact m_k_Mo_others_261 q0 r39 h_r39
set_option maxHeartbeats 4000000 in
set_option maxRecDepth 100000 in
theorem d_k_Mo_others_24 (q0 : z_Sg) (t1 : Int32) (t2 : Int32) (q : z_Sg) (hq : z_pn q = z_pn q0) (hd : ¬ z_gI q0 4 = -1) : z_po (k_Mo_others_24 t1 t2 q) (fun o : z_Sg => z_pn o = z_pn q0) := by
  unfold k_Mo_others_24
  refine po_b (d_f_Mo_extend q0 t1 t2 q hq hd) (fun r39 h_r39 => ?_)
  exact d_k_Mo_others_261 q0 r39 h_r39
set_option maxHeartbeats 4000000 in
set_option maxRecDepth 100000 in
theorem m_f_Mo_others (q0 : z_Sg) (x1 : Int32) (x2 : Int32) (q : z_Sg) (hq : z_pk q = z_pk q0) : z_po (f_Mo_others x1 x2 q) (fun o : z_Sg => z_pk o = z_pk q0) := by
  unfold f_Mo_others
  refine po_i (fun _ => ?_) (fun _ => ?_)
  ·
    refine po_b (R := fun _ => True) (fun _ _ => trivial) (fun r36 _ => ?_)
    refine po_b (R := fun _ => True) (fun _ _ => trivial) (fun r37 _ => ?_)
    refine po_i (fun _ => ?_) (fun _ => ?_)
    ·
      exact m_k_Mo_others_24 q0 r36 (2 : Int32) q hq
    ·
      exact m_k_Mo_others_24 q0 r36 (4 : Int32) q hq
  ·
    refine po_i (fun _ => ?_) (fun _ => ?_)
    ·
      exact m_k_Mo_others_42 q0 x1 q hq
    ·
      refine po_i (fun _ => ?_) (fun _ => ?_)
      ·
        exact m_k_Mo_others_42 q0 x1 q hq
      ·
        refine po_i (fun _ => ?_) (fun _ => ?_)
        ·
          exact m_k_Mo_others_62 q0 x1 q hq
        ·
          refine po_i (fun _ => ?_) (fun _ => ?_)
          ·
            exact m_k_Mo_others_62 q0 x1 q hq
          ·
            refine po_i (fun _ => ?_) (fun _ => ?_)
            ·
              refine po_b (m_f_Mo_address q0 q hq) (fun r35 h_r35 => ?_)
              exact m_k_Mo_others_261 q0 r35 h_r35
            ·
              refine po_i (fun _ => ?_) (fun _ => ?_)
              ·
                refine po_b (m_f_Mo_popOperand q0 q hq) (fun r34 h_r34 => ?_)
                exact m_k_Mo_others_261 q0 r34 h_r34
              ·
                refine po_i (fun _ => ?_) (fun _ => ?_)
                ·
                  refine po_b (R := fun _ => True) (fun _ _ => trivial) (fun r31 _ => ?_)
                  refine po_b (R := fun _ => True) (fun _ _ => trivial) (fun r32 _ => ?_)
                  refine po_b (m_f_Mo_push q0 (r31 ||| (2 : Int64)) r32 q hq) (fun r33 h_r33 => ?_)
                  exact m_k_Mo_others_261 q0 r33 h_r33
                ·
                  refine po_i (fun _ => ?_) (fun _ => ?_)
                  ·
                    refine po_b (R := fun _ => True) (fun _ _ => trivial) (fun r28 _ => ?_)
                    refine po_b (m_f_Mo_pop q0 r28 q hq) (fun r29 h_r29 => ?_)
                    refine po_b (m_f_Mo_setFlags q0 r29.1 r29.2 h_r29) (fun r30 h_r30 => ?_)
                    exact m_k_Mo_others_261 q0 r30 h_r30
                  ·
                    refine po_i (fun _ => ?_) (fun _ => ?_)
                    ·
                      exact m_k_Mo_others_160 q0 x2 q hq
                    ·
                      refine po_i (fun _ => ?_) (fun _ => ?_)
                      ·
                        exact m_k_Mo_others_160 q0 x2 q hq
                      ·
                        refine po_i (fun _ => ?_) (fun _ => ?_)
                        ·
                          exact m_k_Mo_others_182 q0 x1 q hq
                        ·
                          refine po_i (fun _ => ?_) (fun _ => ?_)
                          ·
                            exact m_k_Mo_others_182 q0 x1 q hq
                          ·
                            refine po_i (fun _ => ?_) (fun _ => ?_)
                            ·
                              exact m_k_Mo_others_204 q0 x2 q hq
                            ·
                              refine po_i (fun _ => ?_) (fun _ => ?_)
                              ·
                                exact m_k_Mo_others_204 q0 x2 q hq
                              ·
                                refine po_i (fun _ => ?_) (fun _ => ?_)
                                ·
                                  refine po_b (m_f_Mo_leaveFrame q0 q hq) (fun r27 h_r27 => ?_)
                                  exact m_k_Mo_others_261 q0 r27 h_r27
                                ·
                                  refine po_i (fun _ => ?_) (fun _ => ?_)
                                  ·
                                    exact m_k_Mo_others_247 q0 x1 q hq
                                  ·
                                    refine po_i (fun _ => ?_) (fun _ => ?_)
                                    ·
                                      exact m_k_Mo_others_247 q0 x1 q hq
                                    ·
                                      refine po_i (fun _ => ?_) (fun _ => ?_)
                                      ·
                                        exact m_k_Mo_others_247 q0 x1 q hq
                                      ·
                                        refine po_b (m_f_Mo_refuse q0 (6 : Int32) q hq) (fun r26 h_r26 => ?_)
                                        exact m_k_Mo_others_261 q0 r26 h_r26
set_option maxHeartbeats 4000000 in
set_option maxRecDepth 100000 in
theorem d_f_Mo_others (q0 : z_Sg) (x1 : Int32) (x2 : Int32) (q : z_Sg) (hq : z_pn q = z_pn q0) (hd : ¬ z_gI q0 4 = -1) : z_po (f_Mo_others x1 x2 q) (fun o : z_Sg => z_pn o = z_pn q0) := by
  unfold f_Mo_others
  refine po_i (fun _ => ?_) (fun _ => ?_)
  ·
    refine po_b (R := fun _ => True) (fun _ _ => trivial) (fun r36 _ => ?_)
    refine po_b (R := fun _ => True) (fun _ _ => trivial) (fun r37 _ => ?_)
    refine po_i (fun _ => ?_) (fun _ => ?_)
    ·
      exact d_k_Mo_others_24 q0 r36 (2 : Int32) q hq hd
    ·
      exact d_k_Mo_others_24 q0 r36 (4 : Int32) q hq hd
  ·
    refine po_i (fun _ => ?_) (fun _ => ?_)
    ·
      exact d_k_Mo_others_42 q0 x1 q hq hd
    ·
      refine po_i (fun _ => ?_) (fun _ => ?_)
      ·
        exact d_k_Mo_others_42 q0 x1 q hq hd
      ·
        refine po_i (fun _ => ?_) (fun _ => ?_)
        ·
          exact d_k_Mo_others_62 q0 x1 q hq hd
        ·
          refine po_i (fun _ => ?_) (fun _ => ?_)
          ·
            exact d_k_Mo_others_62 q0 x1 q hq hd
          ·
            refine po_i (fun _ => ?_) (fun _ => ?_)
            ·
              refine po_b (d_f_Mo_address q0 q hq hd) (fun r35 h_r35 => ?_)
              exact d_k_Mo_others_261 q0 r35 h_r35
            ·
              refine po_i (fun _ => ?_) (fun _ => ?_)
              ·
                refine po_b (d_f_Mo_popOperand q0 q hq hd) (fun r34 h_r34 => ?_)
                exact d_k_Mo_others_261 q0 r34 h_r34
              ·
                refine po_i (fun _ => ?_) (fun _ => ?_)
                ·
                  refine po_b (R := fun _ => True) (fun _ _ => trivial) (fun r31 _ => ?_)
                  refine po_b (R := fun _ => True) (fun _ _ => trivial) (fun r32 _ => ?_)
                  refine po_b (d_f_Mo_push q0 (r31 ||| (2 : Int64)) r32 q hq hd) (fun r33 h_r33 => ?_)
                  exact d_k_Mo_others_261 q0 r33 h_r33
                ·
                  refine po_i (fun _ => ?_) (fun _ => ?_)
                  ·
                    refine po_b (R := fun _ => True) (fun _ _ => trivial) (fun r28 _ => ?_)
                    refine po_b (d_f_Mo_pop q0 r28 q hq hd) (fun r29 h_r29 => ?_)
                    refine po_b (d_f_Mo_setFlags q0 r29.1 r29.2 h_r29) (fun r30 h_r30 => ?_)
                    exact d_k_Mo_others_261 q0 r30 h_r30
                  ·
                    refine po_i (fun _ => ?_) (fun _ => ?_)
                    ·
                      exact d_k_Mo_others_160 q0 x2 q hq hd
                    ·
                      refine po_i (fun _ => ?_) (fun _ => ?_)
                      ·
                        exact d_k_Mo_others_160 q0 x2 q hq hd
                      ·
                        refine po_i (fun _ => ?_) (fun _ => ?_)
                        ·
                          exact d_k_Mo_others_182 q0 x1 q hq hd
                        ·
                          refine po_i (fun _ => ?_) (fun _ => ?_)
                          ·
                            exact d_k_Mo_others_182 q0 x1 q hq hd
                          ·
                            refine po_i (fun _ => ?_) (fun _ => ?_)
                            ·
                              exact d_k_Mo_others_204 q0 x2 q hq hd
                            ·
                              refine po_i (fun _ => ?_) (fun _ => ?_)
                              ·
                                exact d_k_Mo_others_204 q0 x2 q hq hd
                              ·
                                refine po_i (fun _ => ?_) (fun _ => ?_)
                                ·
                                  refine po_b (d_f_Mo_leaveFrame q0 q hq hd) (fun r27 h_r27 => ?_)
                                  exact d_k_Mo_others_261 q0 r27 h_r27
                                ·
                                  refine po_i (fun _ => ?_) (fun _ => ?_)
                                  ·
                                    exact d_k_Mo_others_247 q0 x1 q hq hd
                                  ·
                                    refine po_i (fun _ => ?_) (fun _ => ?_)
                                    ·
                                      exact d_k_Mo_others_247 q0 x1 q hq hd
                                    ·
                                      refine po_i (fun _ => ?_) (fun _ => ?_)
                                      ·
                                        exact d_k_Mo_others_247 q0 x1 q hq hd
                                      ·
                                        refine po_b (d_f_Mo_refuse q0 (6 : Int32) q hq hd) (fun r26 h_r26 => ?_)
                                        exact d_k_Mo_others_261 q0 r26 h_r26
set_option maxHeartbeats 4000000 in
set_option maxRecDepth 100000 in
theorem m_k_Mo_loop_131 (q0 : z_Sg) (q : z_Sg) (hq : z_pk q = z_pk q0) : z_po (k_Mo_loop_131 q) (fun o : z_Sg => z_pk o = z_pk q0) := by
  unfold k_Mo_loop_131
  exact po_s hq
set_option maxHeartbeats 4000000 in
set_option maxRecDepth 100000 in
theorem d_k_Mo_loop_131 (q0 : z_Sg) (q : z_Sg) (hq : z_pn q = z_pn q0) : z_po (k_Mo_loop_131 q) (fun o : z_Sg => z_pn o = z_pn q0) := by
  unfold k_Mo_loop_131
  exact po_s hq
set_option maxHeartbeats 4000000 in
set_option maxRecDepth 100000 in
theorem m_k_Mo_loop_106 (q0 : z_Sg) (x2 : Int64) (t0 : Int32) (q : z_Sg) (hq : z_pk q = z_pk q0) : z_po (k_Mo_loop_106 x2 t0 q) (fun o : z_Sg => z_pk o = z_pk q0) := by
  unfold k_Mo_loop_106
  refine po_i (fun _ => ?_) (fun _ => ?_)
  ·
    exact m_k_Mo_loop_131 q0 q hq
  ·
    refine po_i (fun _ => ?_) (fun _ => ?_)
    ·
      refine po_b (m_f_Mo_jump q0 ((z_gL q 7) + x2) q hq) (fun r9 h_r9 => ?_)
      exact m_k_Mo_loop_131 q0 r9 h_r9
    ·
      exact m_k_Mo_loop_131 q0 q hq
set_option maxHeartbeats 4000000 in
set_option maxRecDepth 100000 in
theorem d_k_Mo_loop_106 (q0 : z_Sg) (x2 : Int64) (t0 : Int32) (q : z_Sg) (hq : z_pn q = z_pn q0) (hd : ¬ z_gI q0 4 = -1) : z_po (k_Mo_loop_106 x2 t0 q) (fun o : z_Sg => z_pn o = z_pn q0) := by
  unfold k_Mo_loop_106
  refine po_i (fun _ => ?_) (fun _ => ?_)
  ·
    exact d_k_Mo_loop_131 q0 q hq
  ·
    refine po_f (pn_d hq hd) ?_
    exact d_k_Mo_loop_131 q0 q hq
set_option maxHeartbeats 4000000 in
set_option maxRecDepth 100000 in
theorem m_k_Mo_loop_105 (q0 : z_Sg) (x2 : Int64) (q : z_Sg) (hq : z_pk q = z_pk q0) : z_po (k_Mo_loop_105 x2 q) (fun o : z_Sg => z_pk o = z_pk q0) := by
  unfold k_Mo_loop_105
  exact m_k_Mo_loop_106 q0 x2 (0 : Int32) q hq
set_option maxHeartbeats 4000000 in
set_option maxRecDepth 100000 in
theorem d_k_Mo_loop_105 (q0 : z_Sg) (x2 : Int64) (q : z_Sg) (hq : z_pn q = z_pn q0) (hd : ¬ z_gI q0 4 = -1) : z_po (k_Mo_loop_105 x2 q) (fun o : z_Sg => z_pn o = z_pn q0) := by
  unfold k_Mo_loop_105
  exact d_k_Mo_loop_106 q0 x2 (0 : Int32) q hq hd
set_option maxHeartbeats 4000000 in
set_option maxRecDepth 100000 in
theorem m_k_Mo_loop_101 (q0 : z_Sg) (x2 : Int64) (q : z_Sg) (hq : z_pk q = z_pk q0) : z_po (k_Mo_loop_101 x2 q) (fun o : z_Sg => z_pk o = z_pk q0) := by
  unfold k_Mo_loop_101
  exact m_k_Mo_loop_106 q0 x2 (1 : Int32) q hq
set_option maxHeartbeats 4000000 in
set_option maxRecDepth 100000 in
theorem d_k_Mo_loop_101 (q0 : z_Sg) (x2 : Int64) (q : z_Sg) (hq : z_pn q = z_pn q0) (hd : ¬ z_gI q0 4 = -1) : z_po (k_Mo_loop_101 x2 q) (fun o : z_Sg => z_pn o = z_pn q0) := by
  unfold k_Mo_loop_101
  exact d_k_Mo_loop_106 q0 x2 (1 : Int32) q hq hd
set_option maxHeartbeats 4000000 in
set_option maxRecDepth 100000 in
theorem m_k_Mo_loop_98 (q0 : z_Sg) (x2 : Int64) (t0 : Int32) (t1 : Int32) (q : z_Sg) (hq : z_pk q = z_pk q0) : z_po (k_Mo_loop_98 x2 t0 t1 q) (fun o : z_Sg => z_pk o = z_pk q0) := by
  unfold k_Mo_loop_98
  refine po_i (fun _ => ?_) (fun _ => ?_)
  ·
    exact m_k_Mo_loop_101 q0 x2 q hq
  ·
    exact m_k_Mo_loop_105 q0 x2 q hq
set_option maxHeartbeats 4000000 in
set_option maxRecDepth 100000 in
theorem d_k_Mo_loop_98 (q0 : z_Sg) (x2 : Int64) (t0 : Int32) (t1 : Int32) (q : z_Sg) (hq : z_pn q = z_pn q0) (hd : ¬ z_gI q0 4 = -1) : z_po (k_Mo_loop_98 x2 t0 t1 q) (fun o : z_Sg => z_pn o = z_pn q0) := by
  unfold k_Mo_loop_98
  refine po_i (fun _ => ?_) (fun _ => ?_)
  ·
    exact d_k_Mo_loop_101 q0 x2 q hq hd
  ·
    exact d_k_Mo_loop_105 q0 x2 q hq hd
set_option maxHeartbeats 4000000 in
set_option maxRecDepth 100000 in
theorem m_k_Mo_loop_36 (q0 : z_Sg) (x1 : Int32) (x2 : Int64) (q : z_Sg) (hq : z_pk q = z_pk q0) : z_po (k_Mo_loop_36 x1 x2 q) (fun o : z_Sg => z_pk o = z_pk q0) := by
  unfold k_Mo_loop_36
  refine po_i (fun _ => ?_) (fun _ => ?_)
  ·
    refine po_g (fun _ => ?_)
    refine po_i (fun _ => ?_) (fun _ => ?_)
    ·
      exact m_k_Mo_loop_106 q0 x2 (1 : Int32) q hq
    ·
      exact m_k_Mo_loop_106 q0 x2 (0 : Int32) q hq
  ·
    refine po_g (fun _ => ?_)
    refine po_i (fun _ => ?_) (fun _ => ?_)
    ·
      exact m_k_Mo_loop_105 q0 x2 q hq
    ·
      refine po_i (fun _ => ?_) (fun _ => ?_)
      ·
        exact m_k_Mo_loop_101 q0 x2 q hq
      ·
        refine po_g (fun _ => ?_)
        refine po_i (fun _ => ?_) (fun _ => ?_)
        ·
          exact m_k_Mo_loop_98 q0 x2 (z_gN q 1 (3 : Int32).toNatClampNeg) (1 : Int32) q hq
        ·
          exact m_k_Mo_loop_98 q0 x2 (z_gN q 1 (3 : Int32).toNatClampNeg) (0 : Int32) q hq
set_option maxHeartbeats 4000000 in
set_option maxRecDepth 100000 in
theorem d_k_Mo_loop_36 (q0 : z_Sg) (x1 : Int32) (x2 : Int64) (q : z_Sg) (hq : z_pn q = z_pn q0) (hd : ¬ z_gI q0 4 = -1) : z_po (k_Mo_loop_36 x1 x2 q) (fun o : z_Sg => z_pn o = z_pn q0) := by
  unfold k_Mo_loop_36
  refine po_i (fun _ => ?_) (fun _ => ?_)
  ·
    refine po_g (fun _ => ?_)
    refine po_i (fun _ => ?_) (fun _ => ?_)
    ·
      exact d_k_Mo_loop_106 q0 x2 (1 : Int32) q hq hd
    ·
      exact d_k_Mo_loop_106 q0 x2 (0 : Int32) q hq hd
  ·
    refine po_g (fun _ => ?_)
    refine po_i (fun _ => ?_) (fun _ => ?_)
    ·
      exact d_k_Mo_loop_105 q0 x2 q hq hd
    ·
      refine po_i (fun _ => ?_) (fun _ => ?_)
      ·
        exact d_k_Mo_loop_101 q0 x2 q hq hd
      ·
        refine po_g (fun _ => ?_)
        refine po_i (fun _ => ?_) (fun _ => ?_)
        ·
          exact d_k_Mo_loop_98 q0 x2 (z_gN q 1 (3 : Int32).toNatClampNeg) (1 : Int32) q hq hd
        ·
          exact d_k_Mo_loop_98 q0 x2 (z_gN q 1 (3 : Int32).toNatClampNeg) (0 : Int32) q hq hd
set_option maxHeartbeats 4000000 in
set_option maxRecDepth 100000 in
theorem m_k_Mo_loop_13 (q0 : z_Sg) (x1 : Int32) (q : z_Sg) (hq : z_pk q = z_pk q0) : z_po (k_Mo_loop_13 x1 q) (fun o : z_Sg => z_pk o = z_pk q0) := by
  unfold k_Mo_loop_13
  refine po_b (m_f_Mo_number q0 (1 : Int32) q hq) (fun r2 h_r2 => ?_)
  refine po_i (fun _ => ?_) (fun _ => ?_)
  ·
    exact m_k_Mo_loop_36 q0 x1 r2.1 r2.2 h_r2
  ·
    refine po_g (fun _ => ?_)
    refine po_g (fun _ => ?_)
    refine po_n (fun q18 e_q18 => ?_)
    have h_q18 : z_pk q18 = z_pk q0 := by rw [e_q18]; exact h_r2
    exact m_k_Mo_loop_36 q0 x1 r2.1 q18 h_q18
set_option maxHeartbeats 4000000 in
set_option maxRecDepth 100000 in
theorem d_k_Mo_loop_13 (q0 : z_Sg) (x1 : Int32) (q : z_Sg) (hq : z_pn q = z_pn q0) (hd : ¬ z_gI q0 4 = -1) : z_po (k_Mo_loop_13 x1 q) (fun o : z_Sg => z_pn o = z_pn q0) := by
  unfold k_Mo_loop_13
  refine po_b (d_f_Mo_number q0 (1 : Int32) q hq hd) (fun r2 h_r2 => ?_)
  refine po_i (fun _ => ?_) (fun _ => ?_)
  ·
    exact d_k_Mo_loop_36 q0 x1 r2.1 r2.2 h_r2 hd
  ·
    refine po_g (fun _ => ?_)
    refine po_g (fun _ => ?_)
    refine po_n (fun q18 e_q18 => ?_)
    have h_q18 : z_pn q18 = z_pn q0 := by rw [e_q18]; exact h_r2
    exact d_k_Mo_loop_36 q0 x1 r2.1 q18 h_q18 hd
set_option maxHeartbeats 4000000 in
set_option maxRecDepth 100000 in
theorem m_f_Mo_loop (q0 : z_Sg) (x1 : Int32) (q : z_Sg) (hq : z_pk q = z_pk q0) : z_po (f_Mo_loop x1 q) (fun o : z_Sg => z_pk o = z_pk q0) := by
  unfold f_Mo_loop
  refine po_i (fun _ => ?_) (fun _ => ?_)
  ·
    exact m_k_Mo_loop_13 q0 x1 q hq
  ·
    refine po_b (m_f_Mo_refuse q0 (6 : Int32) q hq) (fun r19 h_r19 => ?_)
    exact m_k_Mo_loop_13 q0 x1 r19 h_r19
set_option maxHeartbeats 4000000 in
set_option maxRecDepth 100000 in
theorem d_f_Mo_loop (q0 : z_Sg) (x1 : Int32) (q : z_Sg) (hq : z_pn q = z_pn q0) (hd : ¬ z_gI q0 4 = -1) : z_po (f_Mo_loop x1 q) (fun o : z_Sg => z_pn o = z_pn q0) := by
  unfold f_Mo_loop
  refine po_i (fun _ => ?_) (fun _ => ?_)
  ·
    exact d_k_Mo_loop_13 q0 x1 q hq hd
  ·
    refine po_b (d_f_Mo_refuse q0 (6 : Int32) q hq hd) (fun r19 h_r19 => ?_)
    exact d_k_Mo_loop_13 q0 x1 r19 h_r19 hd
set_option maxHeartbeats 4000000 in
set_option maxRecDepth 100000 in
theorem m_k_Mo_immediate_15 (q0 : z_Sg) (x1 : Int32) (t0 : Int32) (q : z_Sg) (hq : z_pk q = z_pk q0) : z_po (k_Mo_immediate_15 x1 t0 q) (fun o : z_Sg => z_pk o = z_pk q0) := by
  unfold k_Mo_immediate_15
  refine po_b (m_f_Mo_number q0 t0 q hq) (fun r3 h_r3 => ?_)
  refine po_b (R := fun _ => True) (fun _ _ => trivial) (fun r4 _ => ?_)
  refine po_b (m_f_Mo_put8 q0 ((x1 - ((x1 / (8 : Int32)) * (8 : Int32))) + r4) t0 r3.1 r3.2 h_r3) (fun r5 h_r5 => ?_)
  exact po_s h_r5
set_option maxHeartbeats 4000000 in
set_option maxRecDepth 100000 in
theorem d_k_Mo_immediate_15 (q0 : z_Sg) (x1 : Int32) (t0 : Int32) (q : z_Sg) (hq : z_pn q = z_pn q0) (hd : ¬ z_gI q0 4 = -1) : z_po (k_Mo_immediate_15 x1 t0 q) (fun o : z_Sg => z_pn o = z_pn q0) := by
  unfold k_Mo_immediate_15
  refine po_b (d_f_Mo_number q0 t0 q hq hd) (fun r3 h_r3 => ?_)
  refine po_b (R := fun _ => True) (fun _ _ => trivial) (fun r4 _ => ?_)
  refine po_b (d_f_Mo_put8 q0 ((x1 - ((x1 / (8 : Int32)) * (8 : Int32))) + r4) t0 r3.1 r3.2 h_r3) (fun r5 h_r5 => ?_)
  exact po_s h_r5
set_option maxHeartbeats 4000000 in
set_option maxRecDepth 100000 in
theorem m_f_Mo_immediate (q0 : z_Sg) (x1 : Int32) (q : z_Sg) (hq : z_pk q = z_pk q0) : z_po (f_Mo_immediate x1 q) (fun o : z_Sg => z_pk o = z_pk q0) := by
  unfold f_Mo_immediate
  refine po_i (fun _ => ?_) (fun _ => ?_)
  ·
    refine po_b (R := fun _ => True) (fun _ _ => trivial) (fun r2 _ => ?_)
    exact m_k_Mo_immediate_15 q0 x1 r2 q hq
  ·
    exact m_k_Mo_immediate_15 q0 x1 (1 : Int32) q hq
set_option maxHeartbeats 4000000 in
set_option maxRecDepth 100000 in
theorem d_f_Mo_immediate (q0 : z_Sg) (x1 : Int32) (q : z_Sg) (hq : z_pn q = z_pn q0) (hd : ¬ z_gI q0 4 = -1) : z_po (f_Mo_immediate x1 q) (fun o : z_Sg => z_pn o = z_pn q0) := by
  unfold f_Mo_immediate
  refine po_i (fun _ => ?_) (fun _ => ?_)
  ·
    refine po_b (R := fun _ => True) (fun _ _ => trivial) (fun r2 _ => ?_)
    exact d_k_Mo_immediate_15 q0 x1 r2 q hq hd
  ·
    exact d_k_Mo_immediate_15 q0 x1 (1 : Int32) q hq hd
set_option maxHeartbeats 4000000 in
set_option maxRecDepth 100000 in
theorem m_k_Mo_string_315 (q0 : z_Sg) (q : z_Sg) (hq : z_pk q = z_pk q0) : z_po (k_Mo_string_315 q) (fun o : z_Sg => z_pk o = z_pk q0) := by
  unfold k_Mo_string_315
  exact po_s hq
set_option maxHeartbeats 4000000 in
set_option maxRecDepth 100000 in
theorem d_k_Mo_string_315 (q0 : z_Sg) (q : z_Sg) (hq : z_pn q = z_pn q0) : z_po (k_Mo_string_315 q) (fun o : z_Sg => z_pn o = z_pn q0) := by
  unfold k_Mo_string_315
  exact po_s hq
set_option maxHeartbeats 4000000 in
set_option maxRecDepth 100000 in
theorem m_k_Mo_string_300 (q0 : z_Sg) (t0 : Int32) (q : z_Sg) (hq : z_pk q = z_pk q0) : z_po (k_Mo_string_300 t0 q) (fun o : z_Sg => z_pk o = z_pk q0) := by
  unfold k_Mo_string_300
  refine po_i (fun _ => ?_) (fun _ => ?_)
  ·
    refine po_n (fun q27 e_q27 => ?_)
    have h_q27 : z_pk q27 = z_pk q0 := by rw [e_q27]; exact hq
    exact m_k_Mo_string_315 q0 q27 h_q27
  ·
    exact m_k_Mo_string_315 q0 q hq
set_option maxHeartbeats 4000000 in
set_option maxRecDepth 100000 in
theorem d_k_Mo_string_300 (q0 : z_Sg) (t0 : Int32) (q : z_Sg) (hq : z_pn q = z_pn q0) : z_po (k_Mo_string_300 t0 q) (fun o : z_Sg => z_pn o = z_pn q0) := by
  unfold k_Mo_string_300
  refine po_i (fun _ => ?_) (fun _ => ?_)
  ·
    refine po_n (fun q27 e_q27 => ?_)
    have h_q27 : z_pn q27 = z_pn q0 := by rw [e_q27]; exact hq
    exact d_k_Mo_string_315 q0 q27 h_q27
  ·
    exact d_k_Mo_string_315 q0 q hq
set_option maxHeartbeats 4000000 in
set_option maxRecDepth 100000 in
theorem m_k_Mo_string_295 (q0 : z_Sg) (q : z_Sg) (hq : z_pk q = z_pk q0) : z_po (k_Mo_string_295 q) (fun o : z_Sg => z_pk o = z_pk q0) := by
  unfold k_Mo_string_295
  exact m_k_Mo_string_300 q0 (1 : Int32) q hq
set_option maxHeartbeats 4000000 in
set_option maxRecDepth 100000 in
theorem d_k_Mo_string_295 (q0 : z_Sg) (q : z_Sg) (hq : z_pn q = z_pn q0) : z_po (k_Mo_string_295 q) (fun o : z_Sg => z_pn o = z_pn q0) := by
  unfold k_Mo_string_295
  exact d_k_Mo_string_300 q0 (1 : Int32) q hq
set_option maxHeartbeats 4000000 in
set_option maxRecDepth 100000 in
theorem m_k_Mo_string_299 (q0 : z_Sg) (q : z_Sg) (hq : z_pk q = z_pk q0) : z_po (k_Mo_string_299 q) (fun o : z_Sg => z_pk o = z_pk q0) := by
  unfold k_Mo_string_299
  exact m_k_Mo_string_300 q0 (0 : Int32) q hq
set_option maxHeartbeats 4000000 in
set_option maxRecDepth 100000 in
theorem d_k_Mo_string_299 (q0 : z_Sg) (q : z_Sg) (hq : z_pn q = z_pn q0) : z_po (k_Mo_string_299 q) (fun o : z_Sg => z_pn o = z_pn q0) := by
  unfold k_Mo_string_299
  exact d_k_Mo_string_300 q0 (0 : Int32) q hq
set_option maxHeartbeats 4000000 in
set_option maxRecDepth 100000 in
theorem m_k_Mo_string_292 (q0 : z_Sg) (t0 : Int32) (t1 : Int32) (q : z_Sg) (hq : z_pk q = z_pk q0) : z_po (k_Mo_string_292 t0 t1 q) (fun o : z_Sg => z_pk o = z_pk q0) := by
  unfold k_Mo_string_292
  refine po_i (fun _ => ?_) (fun _ => ?_)
  ·
    exact m_k_Mo_string_295 q0 q hq
  ·
    exact m_k_Mo_string_299 q0 q hq
set_option maxHeartbeats 4000000 in
set_option maxRecDepth 100000 in
theorem d_k_Mo_string_292 (q0 : z_Sg) (t0 : Int32) (t1 : Int32) (q : z_Sg) (hq : z_pn q = z_pn q0) : z_po (k_Mo_string_292 t0 t1 q) (fun o : z_Sg => z_pn o = z_pn q0) := by
  unfold k_Mo_string_292
  refine po_i (fun _ => ?_) (fun _ => ?_)
  ·
    exact d_k_Mo_string_295 q0 q hq
  ·
    exact d_k_Mo_string_299 q0 q hq
set_option maxHeartbeats 4000000 in
set_option maxRecDepth 100000 in
theorem m_k_Mo_string_235 (q0 : z_Sg) (x4 : Int32) (t1 : Int32) (t2 : Int64) (t3 : Int64) (q : z_Sg) (hq : z_pk q = z_pk q0) : z_po (k_Mo_string_235 x4 t1 t2 t3 q) (fun o : z_Sg => z_pk o = z_pk q0) := by
  unfold k_Mo_string_235
  refine po_g (fun _ => ?_)
  refine po_n (fun q19 e_q19 => ?_)
  have h_q19 : z_pk q19 = z_pk q0 := by rw [e_q19]; exact hq
  refine po_i (fun _ => ?_) (fun _ => ?_)
  ·
    exact po_s h_q19
  ·
    refine po_g (fun _ => ?_)
    refine po_g (fun _ => ?_)
    refine po_n (fun q23 e_q23 => ?_)
    have h_q23 : z_pk q23 = z_pk q0 := by rw [e_q23]; exact h_q19
    refine po_g (fun _ => ?_)
    refine po_i (fun _ => ?_) (fun _ => ?_)
    ·
      exact m_k_Mo_string_295 q0 q23 h_q23
    ·
      refine po_i (fun _ => ?_) (fun _ => ?_)
      ·
        exact m_k_Mo_string_299 q0 q23 h_q23
      ·
        refine po_g (fun _ => ?_)
        refine po_i (fun _ => ?_) (fun _ => ?_)
        ·
          exact m_k_Mo_string_292 q0 (z_gN q23 1 (3 : Int32).toNatClampNeg) (1 : Int32) q23 h_q23
        ·
          exact m_k_Mo_string_292 q0 (z_gN q23 1 (3 : Int32).toNatClampNeg) (0 : Int32) q23 h_q23
set_option maxHeartbeats 4000000 in
set_option maxRecDepth 100000 in
theorem d_k_Mo_string_235 (q0 : z_Sg) (x4 : Int32) (t1 : Int32) (t2 : Int64) (t3 : Int64) (q : z_Sg) (hq : z_pn q = z_pn q0) : z_po (k_Mo_string_235 x4 t1 t2 t3 q) (fun o : z_Sg => z_pn o = z_pn q0) := by
  unfold k_Mo_string_235
  refine po_g (fun _ => ?_)
  refine po_n (fun q19 e_q19 => ?_)
  have h_q19 : z_pn q19 = z_pn q0 := by rw [e_q19]; exact hq
  refine po_i (fun _ => ?_) (fun _ => ?_)
  ·
    exact po_s h_q19
  ·
    refine po_g (fun _ => ?_)
    refine po_g (fun _ => ?_)
    refine po_n (fun q23 e_q23 => ?_)
    have h_q23 : z_pn q23 = z_pn q0 := by rw [e_q23]; exact h_q19
    refine po_g (fun _ => ?_)
    refine po_i (fun _ => ?_) (fun _ => ?_)
    ·
      exact d_k_Mo_string_295 q0 q23 h_q23
    ·
      refine po_i (fun _ => ?_) (fun _ => ?_)
      ·
        exact d_k_Mo_string_299 q0 q23 h_q23
      ·
        refine po_g (fun _ => ?_)
        refine po_i (fun _ => ?_) (fun _ => ?_)
        ·
          exact d_k_Mo_string_292 q0 (z_gN q23 1 (3 : Int32).toNatClampNeg) (1 : Int32) q23 h_q23
        ·
          exact d_k_Mo_string_292 q0 (z_gN q23 1 (3 : Int32).toNatClampNeg) (0 : Int32) q23 h_q23
set_option maxHeartbeats 4000000 in
set_option maxRecDepth 100000 in
theorem m_k_Mo_string_214 (q0 : z_Sg) (x4 : Int32) (x5 : Int32) (x8 : Int64) (t1 : Int32) (t2 : Int64) (t3 : Int64) (q : z_Sg) (hq : z_pk q = z_pk q0) : z_po (k_Mo_string_214 x4 x5 x8 t1 t2 t3 q) (fun o : z_Sg => z_pk o = z_pk q0) := by
  unfold k_Mo_string_214
  refine po_g (fun _ => ?_)
  refine po_n (fun q15 e_q15 => ?_)
  have h_q15 : z_pk q15 = z_pk q0 := by rw [e_q15]; exact hq
  refine po_g (fun _ => ?_)
  refine po_i (fun _ => ?_) (fun _ => ?_)
  ·
    exact m_k_Mo_string_235 q0 x4 (7 : Int32) (z_gM q15 0 (7 : Int32).toNatClampNeg) (0 : Int64) q15 h_q15
  ·
    exact m_k_Mo_string_235 q0 x4 (7 : Int32) (z_gM q15 0 (7 : Int32).toNatClampNeg) x8 q15 h_q15
set_option maxHeartbeats 4000000 in
set_option maxRecDepth 100000 in
theorem d_k_Mo_string_214 (q0 : z_Sg) (x4 : Int32) (x5 : Int32) (x8 : Int64) (t1 : Int32) (t2 : Int64) (t3 : Int64) (q : z_Sg) (hq : z_pn q = z_pn q0) : z_po (k_Mo_string_214 x4 x5 x8 t1 t2 t3 q) (fun o : z_Sg => z_pn o = z_pn q0) := by
  unfold k_Mo_string_214
  refine po_g (fun _ => ?_)
  refine po_n (fun q15 e_q15 => ?_)
  have h_q15 : z_pn q15 = z_pn q0 := by rw [e_q15]; exact hq
  refine po_g (fun _ => ?_)
  refine po_i (fun _ => ?_) (fun _ => ?_)
  ·
    exact d_k_Mo_string_235 q0 x4 (7 : Int32) (z_gM q15 0 (7 : Int32).toNatClampNeg) (0 : Int64) q15 h_q15
  ·
    exact d_k_Mo_string_235 q0 x4 (7 : Int32) (z_gM q15 0 (7 : Int32).toNatClampNeg) x8 q15 h_q15
set_option maxHeartbeats 4000000 in
set_option maxRecDepth 100000 in
theorem m_k_Mo_string_194 (q0 : z_Sg) (x3 : Int32) (x4 : Int32) (x5 : Int32) (t0 : Int64) (q : z_Sg) (hq : z_pk q = z_pk q0) : z_po (k_Mo_string_194 x3 x4 x5 t0 q) (fun o : z_Sg => z_pk o = z_pk q0) := by
  unfold k_Mo_string_194
  refine po_g (fun _ => ?_)
  refine po_i (fun _ => ?_) (fun _ => ?_)
  ·
    exact m_k_Mo_string_214 q0 x4 x5 t0 (6 : Int32) (z_gM q 0 (6 : Int32).toNatClampNeg) (0 : Int64) q hq
  ·
    exact m_k_Mo_string_214 q0 x4 x5 t0 (6 : Int32) (z_gM q 0 (6 : Int32).toNatClampNeg) t0 q hq
set_option maxHeartbeats 4000000 in
set_option maxRecDepth 100000 in
theorem d_k_Mo_string_194 (q0 : z_Sg) (x3 : Int32) (x4 : Int32) (x5 : Int32) (t0 : Int64) (q : z_Sg) (hq : z_pn q = z_pn q0) : z_po (k_Mo_string_194 x3 x4 x5 t0 q) (fun o : z_Sg => z_pn o = z_pn q0) := by
  unfold k_Mo_string_194
  refine po_g (fun _ => ?_)
  refine po_i (fun _ => ?_) (fun _ => ?_)
  ·
    exact d_k_Mo_string_214 q0 x4 x5 t0 (6 : Int32) (z_gM q 0 (6 : Int32).toNatClampNeg) (0 : Int64) q hq
  ·
    exact d_k_Mo_string_214 q0 x4 x5 t0 (6 : Int32) (z_gM q 0 (6 : Int32).toNatClampNeg) t0 q hq
set_option maxHeartbeats 4000000 in
set_option maxRecDepth 100000 in
theorem m_k_Mo_string_177 (q0 : z_Sg) (x2 : Int32) (x3 : Int32) (x4 : Int32) (x5 : Int32) (q : z_Sg) (hq : z_pk q = z_pk q0) : z_po (k_Mo_string_177 x2 x3 x4 x5 q) (fun o : z_Sg => z_pk o = z_pk q0) := by
  unfold k_Mo_string_177
  refine po_g (fun _ => ?_)
  refine po_i (fun _ => ?_) (fun _ => ?_)
  ·
    exact m_k_Mo_string_194 q0 x3 x4 x5 x2.toInt64 q hq
  ·
    exact m_k_Mo_string_194 q0 x3 x4 x5 ((-x2)).toInt64 q hq
set_option maxHeartbeats 4000000 in
set_option maxRecDepth 100000 in
theorem d_k_Mo_string_177 (q0 : z_Sg) (x2 : Int32) (x3 : Int32) (x4 : Int32) (x5 : Int32) (q : z_Sg) (hq : z_pn q = z_pn q0) : z_po (k_Mo_string_177 x2 x3 x4 x5 q) (fun o : z_Sg => z_pn o = z_pn q0) := by
  unfold k_Mo_string_177
  refine po_g (fun _ => ?_)
  refine po_i (fun _ => ?_) (fun _ => ?_)
  ·
    exact d_k_Mo_string_194 q0 x3 x4 x5 x2.toInt64 q hq
  ·
    exact d_k_Mo_string_194 q0 x3 x4 x5 ((-x2)).toInt64 q hq
set_option maxHeartbeats 4000000 in
set_option maxRecDepth 100000 in
theorem m_k_Mo_string_107 (q0 : z_Sg) (x2 : Int32) (x3 : Int32) (x4 : Int32) (x5 : Int32) (t0 : Int64) (q : z_Sg) (hq : z_pk q = z_pk q0) : z_po (k_Mo_string_107 x2 x3 x4 x5 t0 q) (fun o : z_Sg => z_pk o = z_pk q0) := by
  unfold k_Mo_string_107
  refine po_i (fun _ => ?_) (fun _ => ?_)
  ·
    refine po_i (fun _ => ?_) (fun _ => ?_)
    ·
      refine po_b (m_f_Mo_put8 q0 (0 : Int32) x2 t0 q hq) (fun r9 h_r9 => ?_)
      exact m_k_Mo_string_177 q0 x2 x3 x4 x5 r9 h_r9
    ·
      refine po_g (fun _ => ?_)
      refine po_b (m_f_Mo_lookUp q0 (z_gM q 0 (7 : Int32).toNatClampNeg) x2 (1 : Int32) (0 : Int32) q hq) (fun r33 h_r33 => ?_)
      refine po_b (m_f_Mo_hold q0 t0 x2 r33 h_r33) (fun r34 h_r34 => ?_)
      exact m_k_Mo_string_177 q0 x2 x3 x4 x5 r34 h_r34
  ·
    refine po_g (fun _ => ?_)
    refine po_b (m_f_Mo_load q0 (z_gM q 0 (7 : Int32).toNatClampNeg) x2 (0 : Int32) q hq) (fun r36 h_r36 => ?_)
    refine po_b (m_f_Mo_add q0 t0 r36.1 (0 : Int32) (1 : Int32) x2 r36.2 h_r36) (fun r37 h_r37 => ?_)
    exact m_k_Mo_string_177 q0 x2 x3 x4 x5 r37.2 h_r37
set_option maxHeartbeats 4000000 in
set_option maxRecDepth 100000 in
theorem d_k_Mo_string_107 (q0 : z_Sg) (x2 : Int32) (x3 : Int32) (x4 : Int32) (x5 : Int32) (t0 : Int64) (q : z_Sg) (hq : z_pn q = z_pn q0) (hd : ¬ z_gI q0 4 = -1) : z_po (k_Mo_string_107 x2 x3 x4 x5 t0 q) (fun o : z_Sg => z_pn o = z_pn q0) := by
  unfold k_Mo_string_107
  refine po_i (fun _ => ?_) (fun _ => ?_)
  ·
    refine po_i (fun _ => ?_) (fun _ => ?_)
    ·
      refine po_b (d_f_Mo_put8 q0 (0 : Int32) x2 t0 q hq) (fun r9 h_r9 => ?_)
      exact d_k_Mo_string_177 q0 x2 x3 x4 x5 r9 h_r9
    ·
      refine po_g (fun _ => ?_)
      refine po_b (d_f_Mo_lookUp q0 (z_gM q 0 (7 : Int32).toNatClampNeg) x2 (1 : Int32) (0 : Int32) q hq hd) (fun r33 h_r33 => ?_)
      refine po_b (d_f_Mo_hold q0 t0 x2 r33 h_r33) (fun r34 h_r34 => ?_)
      exact d_k_Mo_string_177 q0 x2 x3 x4 x5 r34 h_r34
  ·
    refine po_g (fun _ => ?_)
    refine po_b (d_f_Mo_load q0 (z_gM q 0 (7 : Int32).toNatClampNeg) x2 (0 : Int32) q hq hd) (fun r36 h_r36 => ?_)
    refine po_b (d_f_Mo_add q0 t0 r36.1 (0 : Int32) (1 : Int32) x2 r36.2 h_r36) (fun r37 h_r37 => ?_)
    exact d_k_Mo_string_177 q0 x2 x3 x4 x5 r37.2 h_r37
set_option maxHeartbeats 4000000 in
set_option maxRecDepth 100000 in
theorem m_k_Mo_string_79 (q0 : z_Sg) (x2 : Int32) (x3 : Int32) (x4 : Int32) (t0 : Int32) (q : z_Sg) (hq : z_pk q = z_pk q0) : z_po (k_Mo_string_79 x2 x3 x4 t0 q) (fun o : z_Sg => z_pk o = z_pk q0) := by
  unfold k_Mo_string_79
  refine po_i (fun _ => ?_) (fun _ => ?_)
  ·
    refine po_b (R := fun _ => True) (fun _ _ => trivial) (fun r6 _ => ?_)
    exact m_k_Mo_string_107 q0 x2 x3 x4 t0 r6 q hq
  ·
    refine po_g (fun _ => ?_)
    refine po_b (m_f_Mo_load q0 (z_gM q 0 (6 : Int32).toNatClampNeg) x2 (0 : Int32) q hq) (fun r39 h_r39 => ?_)
    exact m_k_Mo_string_107 q0 x2 x3 x4 t0 r39.1 r39.2 h_r39
set_option maxHeartbeats 4000000 in
set_option maxRecDepth 100000 in
theorem d_k_Mo_string_79 (q0 : z_Sg) (x2 : Int32) (x3 : Int32) (x4 : Int32) (t0 : Int32) (q : z_Sg) (hq : z_pn q = z_pn q0) (hd : ¬ z_gI q0 4 = -1) : z_po (k_Mo_string_79 x2 x3 x4 t0 q) (fun o : z_Sg => z_pn o = z_pn q0) := by
  unfold k_Mo_string_79
  refine po_i (fun _ => ?_) (fun _ => ?_)
  ·
    refine po_b (R := fun _ => True) (fun _ _ => trivial) (fun r6 _ => ?_)
    exact d_k_Mo_string_107 q0 x2 x3 x4 t0 r6 q hq hd
  ·
    refine po_g (fun _ => ?_)
    refine po_b (d_f_Mo_load q0 (z_gM q 0 (6 : Int32).toNatClampNeg) x2 (0 : Int32) q hq hd) (fun r39 h_r39 => ?_)
    exact d_k_Mo_string_107 q0 x2 x3 x4 t0 r39.1 r39.2 h_r39 hd
set_option maxHeartbeats 4000000 in
set_option maxRecDepth 100000 in
theorem m_k_Mo_string_65 (q0 : z_Sg) (x1 : Int32) (x2 : Int32) (x3 : Int32) (t0 : Int32) (q : z_Sg) (hq : z_pk q = z_pk q0) : z_po (k_Mo_string_65 x1 x2 x3 t0 q) (fun o : z_Sg => z_pk o = z_pk q0) := by
  unfold k_Mo_string_65
  refine po_i (fun _ => ?_) (fun _ => ?_)
  ·
    exact m_k_Mo_string_79 q0 x2 x3 t0 (0 : Int32) q hq
  ·
    exact m_k_Mo_string_79 q0 x2 x3 t0 (1 : Int32) q hq
set_option maxHeartbeats 4000000 in
set_option maxRecDepth 100000 in
theorem d_k_Mo_string_65 (q0 : z_Sg) (x1 : Int32) (x2 : Int32) (x3 : Int32) (t0 : Int32) (q : z_Sg) (hq : z_pn q = z_pn q0) (hd : ¬ z_gI q0 4 = -1) : z_po (k_Mo_string_65 x1 x2 x3 t0 q) (fun o : z_Sg => z_pn o = z_pn q0) := by
  unfold k_Mo_string_65
  refine po_i (fun _ => ?_) (fun _ => ?_)
  ·
    exact d_k_Mo_string_79 q0 x2 x3 t0 (0 : Int32) q hq hd
  ·
    exact d_k_Mo_string_79 q0 x2 x3 t0 (1 : Int32) q hq hd
set_option maxHeartbeats 4000000 in
set_option maxRecDepth 100000 in
theorem m_k_Mo_string_60 (q0 : z_Sg) (x1 : Int32) (x2 : Int32) (x3 : Int32) (q : z_Sg) (hq : z_pk q = z_pk q0) : z_po (k_Mo_string_60 x1 x2 x3 q) (fun o : z_Sg => z_pk o = z_pk q0) := by
  unfold k_Mo_string_60
  exact m_k_Mo_string_65 q0 x1 x2 x3 (1 : Int32) q hq
set_option maxHeartbeats 4000000 in
set_option maxRecDepth 100000 in
theorem d_k_Mo_string_60 (q0 : z_Sg) (x1 : Int32) (x2 : Int32) (x3 : Int32) (q : z_Sg) (hq : z_pn q = z_pn q0) (hd : ¬ z_gI q0 4 = -1) : z_po (k_Mo_string_60 x1 x2 x3 q) (fun o : z_Sg => z_pn o = z_pn q0) := by
  unfold k_Mo_string_60
  exact d_k_Mo_string_65 q0 x1 x2 x3 (1 : Int32) q hq hd
set_option maxHeartbeats 4000000 in
set_option maxRecDepth 100000 in
theorem m_k_Mo_string_45 (q0 : z_Sg) (x1 : Int32) (x2 : Int32) (t0 : Int32) (q : z_Sg) (hq : z_pk q = z_pk q0) : z_po (k_Mo_string_45 x1 x2 t0 q) (fun o : z_Sg => z_pk o = z_pk q0) := by
  unfold k_Mo_string_45
  refine po_i (fun _ => ?_) (fun _ => ?_)
  ·
    exact m_k_Mo_string_60 q0 x1 x2 t0 q hq
  ·
    refine po_i (fun _ => ?_) (fun _ => ?_)
    ·
      exact m_k_Mo_string_60 q0 x1 x2 t0 q hq
    ·
      exact m_k_Mo_string_65 q0 x1 x2 t0 (0 : Int32) q hq
set_option maxHeartbeats 4000000 in
set_option maxRecDepth 100000 in
theorem d_k_Mo_string_45 (q0 : z_Sg) (x1 : Int32) (x2 : Int32) (t0 : Int32) (q : z_Sg) (hq : z_pn q = z_pn q0) (hd : ¬ z_gI q0 4 = -1) : z_po (k_Mo_string_45 x1 x2 t0 q) (fun o : z_Sg => z_pn o = z_pn q0) := by
  unfold k_Mo_string_45
  refine po_i (fun _ => ?_) (fun _ => ?_)
  ·
    exact d_k_Mo_string_60 q0 x1 x2 t0 q hq hd
  ·
    refine po_i (fun _ => ?_) (fun _ => ?_)
    ·
      exact d_k_Mo_string_60 q0 x1 x2 t0 q hq hd
    ·
      exact d_k_Mo_string_65 q0 x1 x2 t0 (0 : Int32) q hq hd
set_option maxHeartbeats 4000000 in
set_option maxRecDepth 100000 in
theorem m_k_Mo_string_40 (q0 : z_Sg) (x1 : Int32) (x2 : Int32) (q : z_Sg) (hq : z_pk q = z_pk q0) : z_po (k_Mo_string_40 x1 x2 q) (fun o : z_Sg => z_pk o = z_pk q0) := by
  unfold k_Mo_string_40
  exact m_k_Mo_string_45 q0 x1 x2 (1 : Int32) q hq
set_option maxHeartbeats 4000000 in
set_option maxRecDepth 100000 in
theorem d_k_Mo_string_40 (q0 : z_Sg) (x1 : Int32) (x2 : Int32) (q : z_Sg) (hq : z_pn q = z_pn q0) (hd : ¬ z_gI q0 4 = -1) : z_po (k_Mo_string_40 x1 x2 q) (fun o : z_Sg => z_pn o = z_pn q0) := by
  unfold k_Mo_string_40
  exact d_k_Mo_string_45 q0 x1 x2 (1 : Int32) q hq hd
set_option maxHeartbeats 4000000 in
set_option maxRecDepth 100000 in
theorem m_k_Mo_string_19 (q0 : z_Sg) (x1 : Int32) (x2 : Int32) (q : z_Sg) (hq : z_pk q = z_pk q0) : z_po (k_Mo_string_19 x1 x2 q) (fun o : z_Sg => z_pk o = z_pk q0) := by
  unfold k_Mo_string_19
  refine po_i (fun _ => ?_) (fun _ => ?_)
  ·
    exact m_k_Mo_string_40 q0 x1 x2 q hq
  ·
    refine po_i (fun _ => ?_) (fun _ => ?_)
    ·
      exact m_k_Mo_string_40 q0 x1 x2 q hq
    ·
      refine po_i (fun _ => ?_) (fun _ => ?_)
      ·
        exact m_k_Mo_string_40 q0 x1 x2 q hq
      ·
        exact m_k_Mo_string_45 q0 x1 x2 (0 : Int32) q hq
set_option maxHeartbeats 4000000 in
set_option maxRecDepth 100000 in
theorem d_k_Mo_string_19 (q0 : z_Sg) (x1 : Int32) (x2 : Int32) (q : z_Sg) (hq : z_pn q = z_pn q0) (hd : ¬ z_gI q0 4 = -1) : z_po (k_Mo_string_19 x1 x2 q) (fun o : z_Sg => z_pn o = z_pn q0) := by
  unfold k_Mo_string_19
  refine po_i (fun _ => ?_) (fun _ => ?_)
  ·
    exact d_k_Mo_string_40 q0 x1 x2 q hq hd
  ·
    refine po_i (fun _ => ?_) (fun _ => ?_)
    ·
      exact d_k_Mo_string_40 q0 x1 x2 q hq hd
    ·
      refine po_i (fun _ => ?_) (fun _ => ?_)
      ·
        exact d_k_Mo_string_40 q0 x1 x2 q hq hd
      ·
        exact d_k_Mo_string_45 q0 x1 x2 (0 : Int32) q hq hd
set_option maxHeartbeats 4000000 in
set_option maxRecDepth 100000 in
theorem m_f_Mo_string (q0 : z_Sg) (x1 : Int32) (x2 : Int32) (q : z_Sg) (hq : z_pk q = z_pk q0) : z_po (f_Mo_string x1 x2 q) (fun o : z_Sg => z_pk o = z_pk q0) := by
  unfold f_Mo_string
  refine po_i (fun _ => ?_) (fun _ => ?_)
  ·
    exact m_k_Mo_string_19 q0 x1 x2 q hq
  ·
    refine po_g (fun _ => ?_)
    refine po_i (fun _ => ?_) (fun _ => ?_)
    ·
      exact po_s hq
    ·
      exact m_k_Mo_string_19 q0 x1 x2 q hq
set_option maxHeartbeats 4000000 in
set_option maxRecDepth 100000 in
theorem d_f_Mo_string (q0 : z_Sg) (x1 : Int32) (x2 : Int32) (q : z_Sg) (hq : z_pn q = z_pn q0) (hd : ¬ z_gI q0 4 = -1) : z_po (f_Mo_string x1 x2 q) (fun o : z_Sg => z_pn o = z_pn q0) := by
  unfold f_Mo_string
  refine po_i (fun _ => ?_) (fun _ => ?_)
  ·
    exact d_k_Mo_string_19 q0 x1 x2 q hq hd
  ·
    refine po_g (fun _ => ?_)
    refine po_i (fun _ => ?_) (fun _ => ?_)
    ·
      exact po_s hq
    ·
      exact d_k_Mo_string_19 q0 x1 x2 q hq hd
set_option maxHeartbeats 4000000 in
set_option maxRecDepth 100000 in
theorem m_k_Mo_turn_120 (q0 : z_Sg) (q : z_Sg) (hq : z_pk q = z_pk q0) : z_po (k_Mo_turn_120 q) (fun o : z_Sg => z_pk o = z_pk q0) := by
  unfold k_Mo_turn_120
  exact po_s hq
set_option maxHeartbeats 4000000 in
set_option maxRecDepth 100000 in
theorem d_k_Mo_turn_120 (q0 : z_Sg) (q : z_Sg) (hq : z_pn q = z_pn q0) : z_po (k_Mo_turn_120 q) (fun o : z_Sg => z_pn o = z_pn q0) := by
  unfold k_Mo_turn_120
  exact po_s hq
set_option maxHeartbeats 4000000 in
set_option maxRecDepth 100000 in
theorem m_k_Mo_turn_74 (q0 : z_Sg) (t1 : Int32) (t2 : Int32) (t3 : Int64) (q : z_Sg) (hq : z_pk q = z_pk q0) : z_po (k_Mo_turn_74 t1 t2 t3 q) (fun o : z_Sg => z_pk o = z_pk q0) := by
  unfold k_Mo_turn_74
  refine po_b (m_f_Mo_put8 q0 t1 t2 t3 q hq) (fun r16 h_r16 => ?_)
  exact m_k_Mo_turn_120 q0 r16 h_r16
set_option maxHeartbeats 4000000 in
set_option maxRecDepth 100000 in
theorem d_k_Mo_turn_74 (q0 : z_Sg) (t1 : Int32) (t2 : Int32) (t3 : Int64) (q : z_Sg) (hq : z_pn q = z_pn q0) : z_po (k_Mo_turn_74 t1 t2 t3 q) (fun o : z_Sg => z_pn o = z_pn q0) := by
  unfold k_Mo_turn_74
  refine po_b (d_f_Mo_put8 q0 t1 t2 t3 q hq) (fun r16 h_r16 => ?_)
  exact d_k_Mo_turn_120 q0 r16 h_r16
set_option maxHeartbeats 4000000 in
set_option maxRecDepth 100000 in
theorem m_f_Mo_turn (q0 : z_Sg) (x1 : Int32) (q : z_Sg) (hq : z_pk q = z_pk q0) : z_po (f_Mo_turn x1 q) (fun o : z_Sg => z_pk o = z_pk q0) := by
  unfold f_Mo_turn
  refine po_b (R := fun _ => True) (fun _ _ => trivial) (fun r1 _ => ?_)
  refine po_b (R := fun _ => True) (fun _ _ => trivial) (fun r2 _ => ?_)
  refine po_n (fun n3 _ => ?_)
  refine po_i (fun _ => ?_) (fun _ => ?_)
  ·
    refine po_g (fun _ => ?_)
    refine po_b (R := fun _ => True) (fun _ _ => trivial) (fun r18 _ => ?_)
    refine po_b (m_f_Mo_put8 q0 (0 : Int32) r1 r18 q hq) (fun r19 h_r19 => ?_)
    exact m_k_Mo_turn_120 q0 r19 h_r19
  ·
    refine po_i (fun _ => ?_) (fun _ => ?_)
    ·
      refine po_g (fun _ => ?_)
      refine po_b (R := fun _ => True) (fun _ _ => trivial) (fun r14 _ => ?_)
      refine po_i (fun _ => ?_) (fun _ => ?_)
      ·
        exact m_k_Mo_turn_74 q0 (2 : Int32) r1 (0 : Int64) q hq
      ·
        exact m_k_Mo_turn_74 q0 (2 : Int32) r1 (-1 : Int64) q hq
    ·
      refine po_i (fun _ => ?_) (fun _ => ?_)
      ·
        exact m_k_Mo_turn_120 q0 q hq
      ·
        refine po_g (fun _ => ?_)
        refine po_b (R := fun _ => True) (fun _ _ => trivial) (fun r8 _ => ?_)
        refine po_g (fun _ => ?_)
        refine po_b (R := fun _ => True) (fun _ _ => trivial) (fun r10 _ => ?_)
        refine po_b (m_f_Mo_put8 q0 (0 : Int32) r1 r10 q hq) (fun r11 h_r11 => ?_)
        refine po_b (m_f_Mo_put8 q0 n3 r1 r8 r11 h_r11) (fun r12 h_r12 => ?_)
        exact m_k_Mo_turn_120 q0 r12 h_r12
set_option maxHeartbeats 4000000 in
set_option maxRecDepth 100000 in
theorem d_f_Mo_turn (q0 : z_Sg) (x1 : Int32) (q : z_Sg) (hq : z_pn q = z_pn q0) : z_po (f_Mo_turn x1 q) (fun o : z_Sg => z_pn o = z_pn q0) := by
  unfold f_Mo_turn
  refine po_b (R := fun _ => True) (fun _ _ => trivial) (fun r1 _ => ?_)
  refine po_b (R := fun _ => True) (fun _ _ => trivial) (fun r2 _ => ?_)
  refine po_n (fun n3 _ => ?_)
  refine po_i (fun _ => ?_) (fun _ => ?_)
  ·
    refine po_g (fun _ => ?_)
    refine po_b (R := fun _ => True) (fun _ _ => trivial) (fun r18 _ => ?_)
    refine po_b (d_f_Mo_put8 q0 (0 : Int32) r1 r18 q hq) (fun r19 h_r19 => ?_)
    exact d_k_Mo_turn_120 q0 r19 h_r19
  ·
    refine po_i (fun _ => ?_) (fun _ => ?_)
    ·
      refine po_g (fun _ => ?_)
      refine po_b (R := fun _ => True) (fun _ _ => trivial) (fun r14 _ => ?_)
      refine po_i (fun _ => ?_) (fun _ => ?_)
      ·
        exact d_k_Mo_turn_74 q0 (2 : Int32) r1 (0 : Int64) q hq
      ·
        exact d_k_Mo_turn_74 q0 (2 : Int32) r1 (-1 : Int64) q hq
    ·
      refine po_i (fun _ => ?_) (fun _ => ?_)
      ·
        exact d_k_Mo_turn_120 q0 q hq
      ·
        refine po_g (fun _ => ?_)
        refine po_b (R := fun _ => True) (fun _ _ => trivial) (fun r8 _ => ?_)
        refine po_g (fun _ => ?_)
        refine po_b (R := fun _ => True) (fun _ _ => trivial) (fun r10 _ => ?_)
        refine po_b (d_f_Mo_put8 q0 (0 : Int32) r1 r10 q hq) (fun r11 h_r11 => ?_)
        refine po_b (d_f_Mo_put8 q0 n3 r1 r8 r11 h_r11) (fun r12 h_r12 => ?_)
        exact d_k_Mo_turn_120 q0 r12 h_r12
set_option maxHeartbeats 4000000 in
set_option maxRecDepth 100000 in
theorem m_k_Mo_move_99 (q0 : z_Sg) (q : z_Sg) (hq : z_pk q = z_pk q0) : z_po (k_Mo_move_99 q) (fun o : z_Sg => z_pk o = z_pk q0) := by
  unfold k_Mo_move_99
  exact po_s hq
set_option maxHeartbeats 4000000 in
set_option maxRecDepth 100000 in
theorem d_k_Mo_move_99 (q0 : z_Sg) (q : z_Sg) (hq : z_pn q = z_pn q0) : z_po (k_Mo_move_99 q) (fun o : z_Sg => z_pn o = z_pn q0) := by
  unfold k_Mo_move_99
  exact po_s hq
set_option maxHeartbeats 4000000 in
set_option maxRecDepth 100000 in
theorem m_f_Mo_move (q0 : z_Sg) (x1 : Int32) (x2 : Int32) (q : z_Sg) (hq : z_pk q = z_pk q0) : z_po (f_Mo_move x1 x2 q) (fun o : z_Sg => z_pk o = z_pk q0) := by
  unfold f_Mo_move
  refine po_b (m_f_Mo_takeOperand q0 q hq) (fun r1 h_r1 => ?_)
  refine po_b (R := fun _ => True) (fun _ _ => trivial) (fun r2 _ => ?_)
  refine po_i (fun _ => ?_) (fun _ => ?_)
  ·
    refine po_i (fun _ => ?_) (fun _ => ?_)
    ·
      refine po_i (fun _ => ?_) (fun _ => ?_)
      ·
        refine po_b (m_f_Mo_e q0 x2 (0 : Int32) r1 h_r1) (fun r6 h_r6 => ?_)
        refine po_b (m_f_Mo_setG q0 x2 r6.1 r6.2 h_r6) (fun r7 h_r7 => ?_)
        exact m_k_Mo_move_99 q0 r7 h_r7
      ·
        refine po_b (m_f_Mo_e q0 x2 (1 : Int32) r1 h_r1) (fun r8 h_r8 => ?_)
        refine po_b (m_f_Mo_setE q0 x2 r2 r8.2 h_r8) (fun r9 h_r9 => ?_)
        exact m_k_Mo_move_99 q0 r9 h_r9
    ·
      refine po_b (m_f_Mo_e q0 x2 (1 : Int32) r1 h_r1) (fun r10 h_r10 => ?_)
      refine po_b (m_f_Mo_setE q0 x2 r2 r10.2 h_r10) (fun r11 h_r11 => ?_)
      refine po_b (m_f_Mo_setG q0 x2 r10.1 r11 h_r11) (fun r12 h_r12 => ?_)
      exact m_k_Mo_move_99 q0 r12 h_r12
  ·
    refine po_b (m_f_Mo_e q0 x2 (0 : Int32) r1 h_r1) (fun r13 h_r13 => ?_)
    refine po_b (m_f_Mo_logic q0 (r13.1 &&& r2) x2 r13.2 h_r13) (fun r14 h_r14 => ?_)
    exact m_k_Mo_move_99 q0 r14.2 h_r14
set_option maxHeartbeats 4000000 in
set_option maxRecDepth 100000 in
theorem d_f_Mo_move (q0 : z_Sg) (x1 : Int32) (x2 : Int32) (q : z_Sg) (hq : z_pn q = z_pn q0) (hd : ¬ z_gI q0 4 = -1) : z_po (f_Mo_move x1 x2 q) (fun o : z_Sg => z_pn o = z_pn q0) := by
  unfold f_Mo_move
  refine po_b (d_f_Mo_takeOperand q0 q hq hd) (fun r1 h_r1 => ?_)
  refine po_b (R := fun _ => True) (fun _ _ => trivial) (fun r2 _ => ?_)
  refine po_i (fun _ => ?_) (fun _ => ?_)
  ·
    refine po_i (fun _ => ?_) (fun _ => ?_)
    ·
      refine po_i (fun _ => ?_) (fun _ => ?_)
      ·
        refine po_b (d_f_Mo_e q0 x2 (0 : Int32) r1 h_r1 hd) (fun r6 h_r6 => ?_)
        refine po_b (d_f_Mo_setG q0 x2 r6.1 r6.2 h_r6) (fun r7 h_r7 => ?_)
        exact d_k_Mo_move_99 q0 r7 h_r7
      ·
        refine po_b (d_f_Mo_e q0 x2 (1 : Int32) r1 h_r1 hd) (fun r8 h_r8 => ?_)
        refine po_b (d_f_Mo_setE q0 x2 r2 r8.2 h_r8) (fun r9 h_r9 => ?_)
        exact d_k_Mo_move_99 q0 r9 h_r9
    ·
      refine po_b (d_f_Mo_e q0 x2 (1 : Int32) r1 h_r1 hd) (fun r10 h_r10 => ?_)
      refine po_b (d_f_Mo_setE q0 x2 r2 r10.2 h_r10) (fun r11 h_r11 => ?_)
      refine po_b (d_f_Mo_setG q0 x2 r10.1 r11 h_r11) (fun r12 h_r12 => ?_)
      exact d_k_Mo_move_99 q0 r12 h_r12
  ·
    refine po_b (d_f_Mo_e q0 x2 (0 : Int32) r1 h_r1 hd) (fun r13 h_r13 => ?_)
    refine po_b (d_f_Mo_logic q0 (r13.1 &&& r2) x2 r13.2 h_r13) (fun r14 h_r14 => ?_)
    exact d_k_Mo_move_99 q0 r14.2 h_r14
set_option maxHeartbeats 4000000 in
set_option maxRecDepth 100000 in
theorem m_k_Mo_branch_41 (q0 : z_Sg) (q : z_Sg) (hq : z_pk q = z_pk q0) : z_po (k_Mo_branch_41 q) (fun o : z_Sg => z_pk o = z_pk q0) := by
  unfold k_Mo_branch_41
  exact po_s hq
set_option maxHeartbeats 4000000 in
set_option maxRecDepth 100000 in
theorem d_k_Mo_branch_41 (q0 : z_Sg) (q : z_Sg) (hq : z_pn q = z_pn q0) : z_po (k_Mo_branch_41 q) (fun o : z_Sg => z_pn o = z_pn q0) := by
  unfold k_Mo_branch_41
  exact po_s hq
set_option maxHeartbeats 4000000 in
set_option maxRecDepth 100000 in
theorem m_k_Mo_branch_13 (q0 : z_Sg) (x1 : Int32) (x2 : Int32) (q : z_Sg) (hq : z_pk q = z_pk q0) : z_po (k_Mo_branch_13 x1 x2 q) (fun o : z_Sg => z_pk o = z_pk q0) := by
  unfold k_Mo_branch_13
  refine po_b (m_f_Mo_number q0 x2 q hq) (fun r2 h_r2 => ?_)
  refine po_i (fun _ => ?_) (fun _ => ?_)
  ·
    exact m_k_Mo_branch_41 q0 r2.2 h_r2
  ·
    refine po_i (fun _ => ?_) (fun _ => ?_)
    ·
      refine po_b (m_f_Mo_jump q0 ((z_gL r2.2 7) + r2.1) r2.2 h_r2) (fun r5 h_r5 => ?_)
      exact m_k_Mo_branch_41 q0 r5 h_r5
    ·
      exact m_k_Mo_branch_41 q0 r2.2 h_r2
set_option maxHeartbeats 4000000 in
set_option maxRecDepth 100000 in
theorem d_k_Mo_branch_13 (q0 : z_Sg) (x1 : Int32) (x2 : Int32) (q : z_Sg) (hq : z_pn q = z_pn q0) (hd : ¬ z_gI q0 4 = -1) : z_po (k_Mo_branch_13 x1 x2 q) (fun o : z_Sg => z_pn o = z_pn q0) := by
  unfold k_Mo_branch_13
  refine po_b (d_f_Mo_number q0 x2 q hq hd) (fun r2 h_r2 => ?_)
  refine po_i (fun _ => ?_) (fun _ => ?_)
  ·
    exact d_k_Mo_branch_41 q0 r2.2 h_r2
  ·
    refine po_f (pn_d h_r2 hd) ?_
    exact d_k_Mo_branch_41 q0 r2.2 h_r2
set_option maxHeartbeats 4000000 in
set_option maxRecDepth 100000 in
theorem m_f_Mo_branch (q0 : z_Sg) (x1 : Int32) (x2 : Int32) (q : z_Sg) (hq : z_pk q = z_pk q0) : z_po (f_Mo_branch x1 x2 q) (fun o : z_Sg => z_pk o = z_pk q0) := by
  unfold f_Mo_branch
  refine po_i (fun _ => ?_) (fun _ => ?_)
  ·
    exact m_k_Mo_branch_13 q0 x1 x2 q hq
  ·
    refine po_b (m_f_Mo_refuse q0 (6 : Int32) q hq) (fun r6 h_r6 => ?_)
    exact m_k_Mo_branch_13 q0 x1 x2 r6 h_r6
set_option maxHeartbeats 4000000 in
set_option maxRecDepth 100000 in
theorem d_f_Mo_branch (q0 : z_Sg) (x1 : Int32) (x2 : Int32) (q : z_Sg) (hq : z_pn q = z_pn q0) (hd : ¬ z_gI q0 4 = -1) : z_po (f_Mo_branch x1 x2 q) (fun o : z_Sg => z_pn o = z_pn q0) := by
  unfold f_Mo_branch
  refine po_i (fun _ => ?_) (fun _ => ?_)
  ·
    exact d_k_Mo_branch_13 q0 x1 x2 q hq hd
  ·
    refine po_b (d_f_Mo_refuse q0 (6 : Int32) q hq hd) (fun r6 h_r6 => ?_)
    exact d_k_Mo_branch_13 q0 x1 x2 r6 h_r6 hd
set_option maxHeartbeats 4000000 in
set_option maxRecDepth 100000 in
theorem m_k_Mo_shortStack_51 (q0 : z_Sg) (q : z_Sg) (hq : z_pk q = z_pk q0) : z_po (k_Mo_shortStack_51 q) (fun o : z_Sg => z_pk o = z_pk q0) := by
  unfold k_Mo_shortStack_51
  exact po_s hq
set_option maxHeartbeats 4000000 in
set_option maxRecDepth 100000 in
theorem d_k_Mo_shortStack_51 (q0 : z_Sg) (q : z_Sg) (hq : z_pn q = z_pn q0) : z_po (k_Mo_shortStack_51 q) (fun o : z_Sg => z_pn o = z_pn q0) := by
  unfold k_Mo_shortStack_51
  exact po_s hq
set_option maxHeartbeats 4000000 in
set_option maxRecDepth 100000 in
theorem m_f_Mo_shortStack (q0 : z_Sg) (x1 : Int32) (q : z_Sg) (hq : z_pk q = z_pk q0) : z_po (f_Mo_shortStack x1 q) (fun o : z_Sg => z_pk o = z_pk q0) := by
  unfold f_Mo_shortStack
  refine po_b (R := fun _ => True) (fun _ _ => trivial) (fun r1 _ => ?_)
  refine po_n (fun n2 _ => ?_)
  refine po_i (fun _ => ?_) (fun _ => ?_)
  ·
    refine po_b (R := fun _ => True) (fun _ _ => trivial) (fun r4 _ => ?_)
    refine po_b (R := fun _ => True) (fun _ _ => trivial) (fun r5 _ => ?_)
    refine po_b (m_f_Mo_pop q0 r5 q hq) (fun r6 h_r6 => ?_)
    refine po_b (m_f_Mo_put8 q0 n2 r4 r6.1 r6.2 h_r6) (fun r7 h_r7 => ?_)
    exact m_k_Mo_shortStack_51 q0 r7 h_r7
  ·
    refine po_g (fun _ => ?_)
    refine po_b (R := fun _ => True) (fun _ _ => trivial) (fun r9 _ => ?_)
    refine po_b (m_f_Mo_push q0 (z_gM q 0 n2.toNatClampNeg) r9 q hq) (fun r10 h_r10 => ?_)
    exact m_k_Mo_shortStack_51 q0 r10 h_r10
set_option maxHeartbeats 4000000 in
set_option maxRecDepth 100000 in
theorem d_f_Mo_shortStack (q0 : z_Sg) (x1 : Int32) (q : z_Sg) (hq : z_pn q = z_pn q0) (hd : ¬ z_gI q0 4 = -1) : z_po (f_Mo_shortStack x1 q) (fun o : z_Sg => z_pn o = z_pn q0) := by
  unfold f_Mo_shortStack
  refine po_b (R := fun _ => True) (fun _ _ => trivial) (fun r1 _ => ?_)
  refine po_n (fun n2 _ => ?_)
  refine po_i (fun _ => ?_) (fun _ => ?_)
  ·
    refine po_b (R := fun _ => True) (fun _ _ => trivial) (fun r4 _ => ?_)
    refine po_b (R := fun _ => True) (fun _ _ => trivial) (fun r5 _ => ?_)
    refine po_b (d_f_Mo_pop q0 r5 q hq hd) (fun r6 h_r6 => ?_)
    refine po_b (d_f_Mo_put8 q0 n2 r4 r6.1 r6.2 h_r6) (fun r7 h_r7 => ?_)
    exact d_k_Mo_shortStack_51 q0 r7 h_r7
  ·
    refine po_g (fun _ => ?_)
    refine po_b (R := fun _ => True) (fun _ _ => trivial) (fun r9 _ => ?_)
    refine po_b (d_f_Mo_push q0 (z_gM q 0 n2.toNatClampNeg) r9 q hq hd) (fun r10 h_r10 => ?_)
    exact d_k_Mo_shortStack_51 q0 r10 h_r10
set_option maxHeartbeats 4000000 in
set_option maxRecDepth 100000 in
theorem m_k_Mo_arithmetic_160 (q0 : z_Sg) (q : z_Sg) (hq : z_pk q = z_pk q0) : z_po (k_Mo_arithmetic_160 q) (fun o : z_Sg => z_pk o = z_pk q0) := by
  unfold k_Mo_arithmetic_160
  exact po_s hq
set_option maxHeartbeats 4000000 in
set_option maxRecDepth 100000 in
theorem d_k_Mo_arithmetic_160 (q0 : z_Sg) (q : z_Sg) (hq : z_pn q = z_pn q0) : z_po (k_Mo_arithmetic_160 q) (fun o : z_Sg => z_pn o = z_pn q0) := by
  unfold k_Mo_arithmetic_160
  exact po_s hq
set_option maxHeartbeats 4000000 in
set_option maxRecDepth 100000 in
theorem m_k_Mo_arithmetic_121 (q0 : z_Sg) (q : z_Sg) (hq : z_pk q = z_pk q0) : z_po (k_Mo_arithmetic_121 q) (fun o : z_Sg => z_pk o = z_pk q0) := by
  unfold k_Mo_arithmetic_121
  exact m_k_Mo_arithmetic_160 q0 q hq
set_option maxHeartbeats 4000000 in
set_option maxRecDepth 100000 in
theorem d_k_Mo_arithmetic_121 (q0 : z_Sg) (q : z_Sg) (hq : z_pn q = z_pn q0) : z_po (k_Mo_arithmetic_121 q) (fun o : z_Sg => z_pn o = z_pn q0) := by
  unfold k_Mo_arithmetic_121
  exact d_k_Mo_arithmetic_160 q0 q hq
set_option maxHeartbeats 4000000 in
set_option maxRecDepth 100000 in
theorem m_k_Mo_arithmetic_88 (q0 : z_Sg) (x1 : Int32) (x3 : Int32) (t1 : Int32) (t2 : Int32) (q : z_Sg) (hq : z_pk q = z_pk q0) : z_po (k_Mo_arithmetic_88 x1 x3 t1 t2 q) (fun o : z_Sg => z_pk o = z_pk q0) := by
  unfold k_Mo_arithmetic_88
  refine po_b (m_f_Mo_e q0 t1 t2 q hq) (fun r12 h_r12 => ?_)
  refine po_b (R := fun _ => True) (fun _ _ => trivial) (fun r13 _ => ?_)
  refine po_b (m_f_Mo_reckon q0 x1 r12.1 r13 x3 r12.2 h_r12) (fun r14 h_r14 => ?_)
  refine po_i (fun _ => ?_) (fun _ => ?_)
  ·
    exact m_k_Mo_arithmetic_121 q0 r14.2 h_r14
  ·
    refine po_b (m_f_Mo_setE q0 x3 r14.1 r14.2 h_r14) (fun r16 h_r16 => ?_)
    exact m_k_Mo_arithmetic_121 q0 r16 h_r16
set_option maxHeartbeats 4000000 in
set_option maxRecDepth 100000 in
theorem d_k_Mo_arithmetic_88 (q0 : z_Sg) (x1 : Int32) (x3 : Int32) (t1 : Int32) (t2 : Int32) (q : z_Sg) (hq : z_pn q = z_pn q0) (hd : ¬ z_gI q0 4 = -1) : z_po (k_Mo_arithmetic_88 x1 x3 t1 t2 q) (fun o : z_Sg => z_pn o = z_pn q0) := by
  unfold k_Mo_arithmetic_88
  refine po_b (d_f_Mo_e q0 t1 t2 q hq hd) (fun r12 h_r12 => ?_)
  refine po_b (R := fun _ => True) (fun _ _ => trivial) (fun r13 _ => ?_)
  refine po_b (d_f_Mo_reckon q0 x1 r12.1 r13 x3 r12.2 h_r12) (fun r14 h_r14 => ?_)
  refine po_i (fun _ => ?_) (fun _ => ?_)
  ·
    exact d_k_Mo_arithmetic_121 q0 r14.2 h_r14
  ·
    refine po_b (d_f_Mo_setE q0 x3 r14.1 r14.2 h_r14) (fun r16 h_r16 => ?_)
    exact d_k_Mo_arithmetic_121 q0 r16 h_r16
set_option maxHeartbeats 4000000 in
set_option maxRecDepth 100000 in
theorem m_k_Mo_arithmetic_63 (q0 : z_Sg) (q : z_Sg) (hq : z_pk q = z_pk q0) : z_po (k_Mo_arithmetic_63 q) (fun o : z_Sg => z_pk o = z_pk q0) := by
  unfold k_Mo_arithmetic_63
  exact m_k_Mo_arithmetic_160 q0 q hq
set_option maxHeartbeats 4000000 in
set_option maxRecDepth 100000 in
theorem d_k_Mo_arithmetic_63 (q0 : z_Sg) (q : z_Sg) (hq : z_pn q = z_pn q0) : z_po (k_Mo_arithmetic_63 q) (fun o : z_Sg => z_pn o = z_pn q0) := by
  unfold k_Mo_arithmetic_63
  exact d_k_Mo_arithmetic_160 q0 q hq
set_option maxHeartbeats 4000000 in
set_option maxRecDepth 100000 in
theorem m_f_Mo_arithmetic (q0 : z_Sg) (x1 : Int32) (x2 : Int32) (x3 : Int32) (q : z_Sg) (hq : z_pk q = z_pk q0) : z_po (f_Mo_arithmetic x1 x2 x3 q) (fun o : z_Sg => z_pk o = z_pk q0) := by
  unfold f_Mo_arithmetic
  refine po_i (fun _ => ?_) (fun _ => ?_)
  ·
    refine po_i (fun _ => ?_) (fun _ => ?_)
    ·
      refine po_i (fun _ => ?_) (fun _ => ?_)
      ·
        refine po_b (m_f_Mo_takeOperand q0 q hq) (fun r4 h_r4 => ?_)
        refine po_b (R := fun _ => True) (fun _ _ => trivial) (fun r5 _ => ?_)
        refine po_b (m_f_Mo_e q0 x3 (0 : Int32) r4 h_r4) (fun r6 h_r6 => ?_)
        refine po_b (m_f_Mo_reckon q0 x1 r5 r6.1 x3 r6.2 h_r6) (fun r7 h_r7 => ?_)
        refine po_i (fun _ => ?_) (fun _ => ?_)
        ·
          exact m_k_Mo_arithmetic_160 q0 r7.2 h_r7
        ·
          refine po_b (m_f_Mo_setG q0 x3 r7.1 r7.2 h_r7) (fun r9 h_r9 => ?_)
          exact m_k_Mo_arithmetic_160 q0 r9 h_r9
      ·
        refine po_b (m_f_Mo_takeOperand q0 q hq) (fun r10 h_r10 => ?_)
        refine po_i (fun _ => ?_) (fun _ => ?_)
        ·
          exact m_k_Mo_arithmetic_88 q0 x1 x3 x3 (0 : Int32) r10 h_r10
        ·
          exact m_k_Mo_arithmetic_88 q0 x1 x3 x3 (1 : Int32) r10 h_r10
    ·
      refine po_b (R := fun _ => True) (fun _ _ => trivial) (fun r17 _ => ?_)
      refine po_b (m_f_Mo_number q0 r17 q hq) (fun r18 h_r18 => ?_)
      refine po_b (R := fun _ => True) (fun _ _ => trivial) (fun r19 _ => ?_)
      refine po_b (R := fun _ => True) (fun _ _ => trivial) (fun r20 _ => ?_)
      refine po_b (m_f_Mo_reckon q0 x1 r19 r20 x3 r18.2 h_r18) (fun r21 h_r21 => ?_)
      refine po_i (fun _ => ?_) (fun _ => ?_)
      ·
        exact m_k_Mo_arithmetic_63 q0 r21.2 h_r21
      ·
        refine po_b (m_f_Mo_put8 q0 (0 : Int32) x3 r21.1 r21.2 h_r21) (fun r23 h_r23 => ?_)
        exact m_k_Mo_arithmetic_63 q0 r23 h_r23
  ·
    refine po_b (m_f_Mo_refuse q0 (6 : Int32) q hq) (fun r24 h_r24 => ?_)
    exact m_k_Mo_arithmetic_160 q0 r24 h_r24
set_option maxHeartbeats 4000000 in
set_option maxRecDepth 100000 in
theorem d_f_Mo_arithmetic (q0 : z_Sg) (x1 : Int32) (x2 : Int32) (x3 : Int32) (q : z_Sg) (hq : z_pn q = z_pn q0) (hd : ¬ z_gI q0 4 = -1) : z_po (f_Mo_arithmetic x1 x2 x3 q) (fun o : z_Sg => z_pn o = z_pn q0) := by
  unfold f_Mo_arithmetic
  refine po_i (fun _ => ?_) (fun _ => ?_)
  ·
    refine po_i (fun _ => ?_) (fun _ => ?_)
    ·
      refine po_i (fun _ => ?_) (fun _ => ?_)
      ·
        refine po_b (d_f_Mo_takeOperand q0 q hq hd) (fun r4 h_r4 => ?_)
        refine po_b (R := fun _ => True) (fun _ _ => trivial) (fun r5 _ => ?_)
        refine po_b (d_f_Mo_e q0 x3 (0 : Int32) r4 h_r4 hd) (fun r6 h_r6 => ?_)
        refine po_b (d_f_Mo_reckon q0 x1 r5 r6.1 x3 r6.2 h_r6) (fun r7 h_r7 => ?_)
        refine po_i (fun _ => ?_) (fun _ => ?_)
        ·
          exact d_k_Mo_arithmetic_160 q0 r7.2 h_r7
        ·
          refine po_b (d_f_Mo_setG q0 x3 r7.1 r7.2 h_r7) (fun r9 h_r9 => ?_)
          exact d_k_Mo_arithmetic_160 q0 r9 h_r9
      ·
        refine po_b (d_f_Mo_takeOperand q0 q hq hd) (fun r10 h_r10 => ?_)
        refine po_i (fun _ => ?_) (fun _ => ?_)
        ·
          exact d_k_Mo_arithmetic_88 q0 x1 x3 x3 (0 : Int32) r10 h_r10 hd
        ·
          exact d_k_Mo_arithmetic_88 q0 x1 x3 x3 (1 : Int32) r10 h_r10 hd
    ·
      refine po_b (R := fun _ => True) (fun _ _ => trivial) (fun r17 _ => ?_)
      refine po_b (d_f_Mo_number q0 r17 q hq hd) (fun r18 h_r18 => ?_)
      refine po_b (R := fun _ => True) (fun _ _ => trivial) (fun r19 _ => ?_)
      refine po_b (R := fun _ => True) (fun _ _ => trivial) (fun r20 _ => ?_)
      refine po_b (d_f_Mo_reckon q0 x1 r19 r20 x3 r18.2 h_r18) (fun r21 h_r21 => ?_)
      refine po_i (fun _ => ?_) (fun _ => ?_)
      ·
        exact d_k_Mo_arithmetic_63 q0 r21.2 h_r21
      ·
        refine po_b (d_f_Mo_put8 q0 (0 : Int32) x3 r21.1 r21.2 h_r21) (fun r23 h_r23 => ?_)
        exact d_k_Mo_arithmetic_63 q0 r23 h_r23
  ·
    refine po_b (d_f_Mo_refuse q0 (6 : Int32) q hq hd) (fun r24 h_r24 => ?_)
    exact d_k_Mo_arithmetic_160 q0 r24 h_r24
set_option maxHeartbeats 4000000 in
set_option maxRecDepth 100000 in
theorem m_k_Mo_first_415 (q0 : z_Sg) (q : z_Sg) (hq : z_pk q = z_pk q0) : z_po (k_Mo_first_415 q) (fun o : z_Sg => z_pk o = z_pk q0) := by
  unfold k_Mo_first_415
  exact po_s hq
set_option maxHeartbeats 4000000 in
set_option maxRecDepth 100000 in
theorem d_k_Mo_first_415 (q0 : z_Sg) (q : z_Sg) (hq : z_pn q = z_pn q0) : z_po (k_Mo_first_415 q) (fun o : z_Sg => z_pn o = z_pn q0) := by
  unfold k_Mo_first_415
  exact po_s hq
set_option maxHeartbeats 4000000 in
set_option maxRecDepth 100000 in
theorem m_k_Mo_first_88 (q0 : z_Sg) (x1 : Int32) (x2 : Int32) (q : z_Sg) (hq : z_pk q = z_pk q0) : z_po (k_Mo_first_88 x1 x2 q) (fun o : z_Sg => z_pk o = z_pk q0) := by
  unfold k_Mo_first_88
  refine po_b (m_f_Mo_group q0 x1 x2 q hq) (fun r5 h_r5 => ?_)
  exact m_k_Mo_first_415 q0 r5 h_r5
set_option maxHeartbeats 4000000 in
set_option maxRecDepth 100000 in
theorem d_k_Mo_first_88 (q0 : z_Sg) (x1 : Int32) (x2 : Int32) (q : z_Sg) (hq : z_pn q = z_pn q0) (hd : ¬ z_gI q0 4 = -1) : z_po (k_Mo_first_88 x1 x2 q) (fun o : z_Sg => z_pn o = z_pn q0) := by
  unfold k_Mo_first_88
  refine po_b (d_f_Mo_group q0 x1 x2 q hq hd) (fun r5 h_r5 => ?_)
  exact d_k_Mo_first_415 q0 r5 h_r5
set_option maxHeartbeats 4000000 in
set_option maxRecDepth 100000 in
theorem m_k_Mo_first_233 (q0 : z_Sg) (x1 : Int32) (x2 : Int32) (q : z_Sg) (hq : z_pk q = z_pk q0) : z_po (k_Mo_first_233 x1 x2 q) (fun o : z_Sg => z_pk o = z_pk q0) := by
  unfold k_Mo_first_233
  refine po_b (m_f_Mo_shift q0 x1 x2 q hq) (fun r13 h_r13 => ?_)
  exact m_k_Mo_first_415 q0 r13 h_r13
set_option maxHeartbeats 4000000 in
set_option maxRecDepth 100000 in
theorem d_k_Mo_first_233 (q0 : z_Sg) (x1 : Int32) (x2 : Int32) (q : z_Sg) (hq : z_pn q = z_pn q0) (hd : ¬ z_gI q0 4 = -1) : z_po (k_Mo_first_233 x1 x2 q) (fun o : z_Sg => z_pn o = z_pn q0) := by
  unfold k_Mo_first_233
  refine po_b (d_f_Mo_shift q0 x1 x2 q hq hd) (fun r13 h_r13 => ?_)
  exact d_k_Mo_first_415 q0 r13 h_r13
set_option maxHeartbeats 4000000 in
set_option maxRecDepth 100000 in
theorem m_k_Mo_first_326 (q0 : z_Sg) (t1 : Int32) (t2 : Int32) (q : z_Sg) (hq : z_pk q = z_pk q0) : z_po (k_Mo_first_326 t1 t2 q) (fun o : z_Sg => z_pk o = z_pk q0) := by
  unfold k_Mo_first_326
  refine po_g (fun _ => ?_)
  refine po_n (fun q21 e_q21 => ?_)
  have h_q21 : z_pk q21 = z_pk q0 := by rw [e_q21]; exact hq
  exact m_k_Mo_first_415 q0 q21 h_q21
set_option maxHeartbeats 4000000 in
set_option maxRecDepth 100000 in
theorem d_k_Mo_first_326 (q0 : z_Sg) (t1 : Int32) (t2 : Int32) (q : z_Sg) (hq : z_pn q = z_pn q0) : z_po (k_Mo_first_326 t1 t2 q) (fun o : z_Sg => z_pn o = z_pn q0) := by
  unfold k_Mo_first_326
  refine po_g (fun _ => ?_)
  refine po_n (fun q21 e_q21 => ?_)
  have h_q21 : z_pn q21 = z_pn q0 := by rw [e_q21]; exact hq
  exact d_k_Mo_first_415 q0 q21 h_q21
set_option maxHeartbeats 4000000 in
set_option maxRecDepth 100000 in
theorem m_k_Mo_first_285 (q0 : z_Sg) (x1 : Int32) (q : z_Sg) (hq : z_pk q = z_pk q0) : z_po (k_Mo_first_285 x1 q) (fun o : z_Sg => z_pk o = z_pk q0) := by
  unfold k_Mo_first_285
  refine po_i (fun _ => ?_) (fun _ => ?_)
  ·
    refine po_g (fun _ => ?_)
    refine po_i (fun _ => ?_) (fun _ => ?_)
    ·
      exact m_k_Mo_first_326 q0 (0 : Int32) (1 : Int32) q hq
    ·
      exact m_k_Mo_first_326 q0 (0 : Int32) (0 : Int32) q hq
  ·
    refine po_i (fun _ => ?_) (fun _ => ?_)
    ·
      exact m_k_Mo_first_326 q0 (0 : Int32) (1 : Int32) q hq
    ·
      exact m_k_Mo_first_326 q0 (0 : Int32) (0 : Int32) q hq
set_option maxHeartbeats 4000000 in
set_option maxRecDepth 100000 in
theorem d_k_Mo_first_285 (q0 : z_Sg) (x1 : Int32) (q : z_Sg) (hq : z_pn q = z_pn q0) : z_po (k_Mo_first_285 x1 q) (fun o : z_Sg => z_pn o = z_pn q0) := by
  unfold k_Mo_first_285
  refine po_i (fun _ => ?_) (fun _ => ?_)
  ·
    refine po_g (fun _ => ?_)
    refine po_i (fun _ => ?_) (fun _ => ?_)
    ·
      exact d_k_Mo_first_326 q0 (0 : Int32) (1 : Int32) q hq
    ·
      exact d_k_Mo_first_326 q0 (0 : Int32) (0 : Int32) q hq
  ·
    refine po_i (fun _ => ?_) (fun _ => ?_)
    ·
      exact d_k_Mo_first_326 q0 (0 : Int32) (1 : Int32) q hq
    ·
      exact d_k_Mo_first_326 q0 (0 : Int32) (0 : Int32) q hq
set_option maxHeartbeats 4000000 in
set_option maxRecDepth 100000 in
theorem m_k_Mo_first_361 (q0 : z_Sg) (t1 : Int32) (t2 : Int32) (q : z_Sg) (hq : z_pk q = z_pk q0) : z_po (k_Mo_first_361 t1 t2 q) (fun o : z_Sg => z_pk o = z_pk q0) := by
  unfold k_Mo_first_361
  refine po_g (fun _ => ?_)
  refine po_n (fun q29 e_q29 => ?_)
  have h_q29 : z_pk q29 = z_pk q0 := by rw [e_q29]; exact hq
  exact m_k_Mo_first_415 q0 q29 h_q29
set_option maxHeartbeats 4000000 in
set_option maxRecDepth 100000 in
theorem d_k_Mo_first_361 (q0 : z_Sg) (t1 : Int32) (t2 : Int32) (q : z_Sg) (hq : z_pn q = z_pn q0) : z_po (k_Mo_first_361 t1 t2 q) (fun o : z_Sg => z_pn o = z_pn q0) := by
  unfold k_Mo_first_361
  refine po_g (fun _ => ?_)
  refine po_n (fun q29 e_q29 => ?_)
  have h_q29 : z_pn q29 = z_pn q0 := by rw [e_q29]; exact hq
  exact d_k_Mo_first_415 q0 q29 h_q29
set_option maxHeartbeats 4000000 in
set_option maxRecDepth 100000 in
theorem m_k_Mo_first_344 (q0 : z_Sg) (x1 : Int32) (q : z_Sg) (hq : z_pk q = z_pk q0) : z_po (k_Mo_first_344 x1 q) (fun o : z_Sg => z_pk o = z_pk q0) := by
  unfold k_Mo_first_344
  refine po_i (fun _ => ?_) (fun _ => ?_)
  ·
    exact m_k_Mo_first_361 q0 (5 : Int32) (1 : Int32) q hq
  ·
    exact m_k_Mo_first_361 q0 (5 : Int32) (0 : Int32) q hq
set_option maxHeartbeats 4000000 in
set_option maxRecDepth 100000 in
theorem d_k_Mo_first_344 (q0 : z_Sg) (x1 : Int32) (q : z_Sg) (hq : z_pn q = z_pn q0) : z_po (k_Mo_first_344 x1 q) (fun o : z_Sg => z_pn o = z_pn q0) := by
  unfold k_Mo_first_344
  refine po_i (fun _ => ?_) (fun _ => ?_)
  ·
    exact d_k_Mo_first_361 q0 (5 : Int32) (1 : Int32) q hq
  ·
    exact d_k_Mo_first_361 q0 (5 : Int32) (0 : Int32) q hq
set_option maxHeartbeats 4000000 in
set_option maxRecDepth 100000 in
theorem m_k_Mo_first_379 (q0 : z_Sg) (x2 : Int32) (q : z_Sg) (hq : z_pk q = z_pk q0) : z_po (k_Mo_first_379 x2 q) (fun o : z_Sg => z_pk o = z_pk q0) := by
  unfold k_Mo_first_379
  refine po_b (m_f_Mo_unary q0 x2 q hq) (fun r32 h_r32 => ?_)
  exact m_k_Mo_first_415 q0 r32 h_r32
set_option maxHeartbeats 4000000 in
set_option maxRecDepth 100000 in
theorem d_k_Mo_first_379 (q0 : z_Sg) (x2 : Int32) (q : z_Sg) (hq : z_pn q = z_pn q0) (hd : ¬ z_gI q0 4 = -1) : z_po (k_Mo_first_379 x2 q) (fun o : z_Sg => z_pn o = z_pn q0) := by
  unfold k_Mo_first_379
  refine po_b (d_f_Mo_unary q0 x2 q hq hd) (fun r32 h_r32 => ?_)
  exact d_k_Mo_first_415 q0 r32 h_r32
set_option maxHeartbeats 4000000 in
set_option maxRecDepth 100000 in
theorem m_k_Mo_first_401 (q0 : z_Sg) (x2 : Int32) (q : z_Sg) (hq : z_pk q = z_pk q0) : z_po (k_Mo_first_401 x2 q) (fun o : z_Sg => z_pk o = z_pk q0) := by
  unfold k_Mo_first_401
  refine po_b (m_f_Mo_more q0 x2 q hq) (fun r35 h_r35 => ?_)
  exact m_k_Mo_first_415 q0 r35 h_r35
set_option maxHeartbeats 4000000 in
set_option maxRecDepth 100000 in
theorem d_k_Mo_first_401 (q0 : z_Sg) (x2 : Int32) (q : z_Sg) (hq : z_pn q = z_pn q0) (hd : ¬ z_gI q0 4 = -1) : z_po (k_Mo_first_401 x2 q) (fun o : z_Sg => z_pn o = z_pn q0) := by
  unfold k_Mo_first_401
  refine po_b (d_f_Mo_more q0 x2 q hq hd) (fun r35 h_r35 => ?_)
  exact d_k_Mo_first_415 q0 r35 h_r35
set_option maxHeartbeats 4000000 in
set_option maxRecDepth 100000 in
theorem m_k_Mo_first_264 (q0 : z_Sg) (x1 : Int32) (x2 : Int32) (q : z_Sg) (hq : z_pk q = z_pk q0) : z_po (k_Mo_first_264 x1 x2 q) (fun o : z_Sg => z_pk o = z_pk q0) := by
  unfold k_Mo_first_264
  refine po_i (fun _ => ?_) (fun _ => ?_)
  ·
    exact m_k_Mo_first_285 q0 x1 q hq
  ·
    refine po_i (fun _ => ?_) (fun _ => ?_)
    ·
      exact m_k_Mo_first_285 q0 x1 q hq
    ·
      refine po_i (fun _ => ?_) (fun _ => ?_)
      ·
        exact m_k_Mo_first_285 q0 x1 q hq
      ·
        refine po_i (fun _ => ?_) (fun _ => ?_)
        ·
          exact m_k_Mo_first_344 q0 x1 q hq
        ·
          refine po_i (fun _ => ?_) (fun _ => ?_)
          ·
            exact m_k_Mo_first_344 q0 x1 q hq
          ·
            refine po_i (fun _ => ?_) (fun _ => ?_)
            ·
              exact m_k_Mo_first_379 q0 x2 q hq
            ·
              refine po_i (fun _ => ?_) (fun _ => ?_)
              ·
                exact m_k_Mo_first_379 q0 x2 q hq
              ·
                refine po_i (fun _ => ?_) (fun _ => ?_)
                ·
                  exact m_k_Mo_first_401 q0 x2 q hq
                ·
                  refine po_i (fun _ => ?_) (fun _ => ?_)
                  ·
                    exact m_k_Mo_first_401 q0 x2 q hq
                  ·
                    refine po_b (m_f_Mo_others q0 x1 x2 q hq) (fun r37 h_r37 => ?_)
                    exact m_k_Mo_first_415 q0 r37 h_r37
set_option maxHeartbeats 4000000 in
set_option maxRecDepth 100000 in
theorem d_k_Mo_first_264 (q0 : z_Sg) (x1 : Int32) (x2 : Int32) (q : z_Sg) (hq : z_pn q = z_pn q0) (hd : ¬ z_gI q0 4 = -1) : z_po (k_Mo_first_264 x1 x2 q) (fun o : z_Sg => z_pn o = z_pn q0) := by
  unfold k_Mo_first_264
  refine po_i (fun _ => ?_) (fun _ => ?_)
  ·
    exact d_k_Mo_first_285 q0 x1 q hq
  ·
    refine po_i (fun _ => ?_) (fun _ => ?_)
    ·
      exact d_k_Mo_first_285 q0 x1 q hq
    ·
      refine po_i (fun _ => ?_) (fun _ => ?_)
      ·
        exact d_k_Mo_first_285 q0 x1 q hq
      ·
        refine po_i (fun _ => ?_) (fun _ => ?_)
        ·
          exact d_k_Mo_first_344 q0 x1 q hq
        ·
          refine po_i (fun _ => ?_) (fun _ => ?_)
          ·
            exact d_k_Mo_first_344 q0 x1 q hq
          ·
            refine po_i (fun _ => ?_) (fun _ => ?_)
            ·
              exact d_k_Mo_first_379 q0 x2 q hq hd
            ·
              refine po_i (fun _ => ?_) (fun _ => ?_)
              ·
                exact d_k_Mo_first_379 q0 x2 q hq hd
              ·
                refine po_i (fun _ => ?_) (fun _ => ?_)
                ·
                  exact d_k_Mo_first_401 q0 x2 q hq hd
                ·
                  refine po_i (fun _ => ?_) (fun _ => ?_)
                  ·
                    exact d_k_Mo_first_401 q0 x2 q hq hd
                  ·
                    refine po_b (d_f_Mo_others q0 x1 x2 q hq hd) (fun r37 h_r37 => ?_)
                    exact d_k_Mo_first_415 q0 r37 h_r37
set_option maxHeartbeats 4000000 in
set_option maxRecDepth 100000 in
theorem m_k_Mo_first_242 (q0 : z_Sg) (x1 : Int32) (x2 : Int32) (q : z_Sg) (hq : z_pk q = z_pk q0) : z_po (k_Mo_first_242 x1 x2 q) (fun o : z_Sg => z_pk o = z_pk q0) := by
  unfold k_Mo_first_242
  refine po_i (fun _ => ?_) (fun _ => ?_)
  ·
    exact m_k_Mo_first_264 q0 x1 x2 q hq
  ·
    refine po_i (fun _ => ?_) (fun _ => ?_)
    ·
      exact m_k_Mo_first_264 q0 x1 x2 q hq
    ·
      refine po_b (m_f_Mo_loop q0 x1 q hq) (fun r39 h_r39 => ?_)
      exact m_k_Mo_first_415 q0 r39 h_r39
set_option maxHeartbeats 4000000 in
set_option maxRecDepth 100000 in
theorem d_k_Mo_first_242 (q0 : z_Sg) (x1 : Int32) (x2 : Int32) (q : z_Sg) (hq : z_pn q = z_pn q0) (hd : ¬ z_gI q0 4 = -1) : z_po (k_Mo_first_242 x1 x2 q) (fun o : z_Sg => z_pn o = z_pn q0) := by
  unfold k_Mo_first_242
  refine po_i (fun _ => ?_) (fun _ => ?_)
  ·
    exact d_k_Mo_first_264 q0 x1 x2 q hq hd
  ·
    refine po_i (fun _ => ?_) (fun _ => ?_)
    ·
      exact d_k_Mo_first_264 q0 x1 x2 q hq hd
    ·
      refine po_b (d_f_Mo_loop q0 x1 q hq hd) (fun r39 h_r39 => ?_)
      exact d_k_Mo_first_415 q0 r39 h_r39
set_option maxHeartbeats 4000000 in
set_option maxRecDepth 100000 in
theorem m_k_Mo_first_205 (q0 : z_Sg) (x1 : Int32) (x2 : Int32) (q : z_Sg) (hq : z_pk q = z_pk q0) : z_po (k_Mo_first_205 x1 x2 q) (fun o : z_Sg => z_pk o = z_pk q0) := by
  unfold k_Mo_first_205
  refine po_i (fun _ => ?_) (fun _ => ?_)
  ·
    exact m_k_Mo_first_233 q0 x1 x2 q hq
  ·
    refine po_i (fun _ => ?_) (fun _ => ?_)
    ·
      exact m_k_Mo_first_233 q0 x1 x2 q hq
    ·
      refine po_i (fun _ => ?_) (fun _ => ?_)
      ·
        exact m_k_Mo_first_242 q0 x1 x2 q hq
      ·
        refine po_i (fun _ => ?_) (fun _ => ?_)
        ·
          exact m_k_Mo_first_242 q0 x1 x2 q hq
        ·
          exact m_k_Mo_first_233 q0 x1 x2 q hq
set_option maxHeartbeats 4000000 in
set_option maxRecDepth 100000 in
theorem d_k_Mo_first_205 (q0 : z_Sg) (x1 : Int32) (x2 : Int32) (q : z_Sg) (hq : z_pn q = z_pn q0) (hd : ¬ z_gI q0 4 = -1) : z_po (k_Mo_first_205 x1 x2 q) (fun o : z_Sg => z_pn o = z_pn q0) := by
  unfold k_Mo_first_205
  refine po_i (fun _ => ?_) (fun _ => ?_)
  ·
    exact d_k_Mo_first_233 q0 x1 x2 q hq hd
  ·
    refine po_i (fun _ => ?_) (fun _ => ?_)
    ·
      exact d_k_Mo_first_233 q0 x1 x2 q hq hd
    ·
      refine po_i (fun _ => ?_) (fun _ => ?_)
      ·
        exact d_k_Mo_first_242 q0 x1 x2 q hq hd
      ·
        refine po_i (fun _ => ?_) (fun _ => ?_)
        ·
          exact d_k_Mo_first_242 q0 x1 x2 q hq hd
        ·
          exact d_k_Mo_first_233 q0 x1 x2 q hq hd
set_option maxHeartbeats 4000000 in
set_option maxRecDepth 100000 in
theorem m_k_Mo_first_183 (q0 : z_Sg) (x1 : Int32) (x2 : Int32) (q : z_Sg) (hq : z_pk q = z_pk q0) : z_po (k_Mo_first_183 x1 x2 q) (fun o : z_Sg => z_pk o = z_pk q0) := by
  unfold k_Mo_first_183
  refine po_i (fun _ => ?_) (fun _ => ?_)
  ·
    exact m_k_Mo_first_205 q0 x1 x2 q hq
  ·
    refine po_i (fun _ => ?_) (fun _ => ?_)
    ·
      exact m_k_Mo_first_205 q0 x1 x2 q hq
    ·
      refine po_b (m_f_Mo_immediate q0 x1 q hq) (fun r42 h_r42 => ?_)
      exact m_k_Mo_first_415 q0 r42 h_r42
set_option maxHeartbeats 4000000 in
set_option maxRecDepth 100000 in
theorem d_k_Mo_first_183 (q0 : z_Sg) (x1 : Int32) (x2 : Int32) (q : z_Sg) (hq : z_pn q = z_pn q0) (hd : ¬ z_gI q0 4 = -1) : z_po (k_Mo_first_183 x1 x2 q) (fun o : z_Sg => z_pn o = z_pn q0) := by
  unfold k_Mo_first_183
  refine po_i (fun _ => ?_) (fun _ => ?_)
  ·
    exact d_k_Mo_first_205 q0 x1 x2 q hq hd
  ·
    refine po_i (fun _ => ?_) (fun _ => ?_)
    ·
      exact d_k_Mo_first_205 q0 x1 x2 q hq hd
    ·
      refine po_b (d_f_Mo_immediate q0 x1 q hq hd) (fun r42 h_r42 => ?_)
      exact d_k_Mo_first_415 q0 r42 h_r42
set_option maxHeartbeats 4000000 in
set_option maxRecDepth 100000 in
theorem m_k_Mo_first_142 (q0 : z_Sg) (x1 : Int32) (x2 : Int32) (q : z_Sg) (hq : z_pk q = z_pk q0) : z_po (k_Mo_first_142 x1 x2 q) (fun o : z_Sg => z_pk o = z_pk q0) := by
  unfold k_Mo_first_142
  refine po_i (fun _ => ?_) (fun _ => ?_)
  ·
    exact m_k_Mo_first_183 q0 x1 x2 q hq
  ·
    refine po_i (fun _ => ?_) (fun _ => ?_)
    ·
      exact m_k_Mo_first_183 q0 x1 x2 q hq
    ·
      refine po_i (fun _ => ?_) (fun _ => ?_)
      ·
        exact m_k_Mo_first_183 q0 x1 x2 q hq
      ·
        refine po_i (fun _ => ?_) (fun _ => ?_)
        ·
          exact m_k_Mo_first_183 q0 x1 x2 q hq
        ·
          refine po_b (m_f_Mo_string q0 (x1 &&& (254 : Int32)) x2 q hq) (fun r46 h_r46 => ?_)
          exact m_k_Mo_first_415 q0 r46 h_r46
set_option maxHeartbeats 4000000 in
set_option maxRecDepth 100000 in
theorem d_k_Mo_first_142 (q0 : z_Sg) (x1 : Int32) (x2 : Int32) (q : z_Sg) (hq : z_pn q = z_pn q0) (hd : ¬ z_gI q0 4 = -1) : z_po (k_Mo_first_142 x1 x2 q) (fun o : z_Sg => z_pn o = z_pn q0) := by
  unfold k_Mo_first_142
  refine po_i (fun _ => ?_) (fun _ => ?_)
  ·
    exact d_k_Mo_first_183 q0 x1 x2 q hq hd
  ·
    refine po_i (fun _ => ?_) (fun _ => ?_)
    ·
      exact d_k_Mo_first_183 q0 x1 x2 q hq hd
    ·
      refine po_i (fun _ => ?_) (fun _ => ?_)
      ·
        exact d_k_Mo_first_183 q0 x1 x2 q hq hd
      ·
        refine po_i (fun _ => ?_) (fun _ => ?_)
        ·
          exact d_k_Mo_first_183 q0 x1 x2 q hq hd
        ·
          refine po_b (d_f_Mo_string q0 (x1 &&& (254 : Int32)) x2 q hq hd) (fun r46 h_r46 => ?_)
          exact d_k_Mo_first_415 q0 r46 h_r46
set_option maxHeartbeats 4000000 in
set_option maxRecDepth 100000 in
theorem m_k_Mo_first_120 (q0 : z_Sg) (x1 : Int32) (x2 : Int32) (q : z_Sg) (hq : z_pk q = z_pk q0) : z_po (k_Mo_first_120 x1 x2 q) (fun o : z_Sg => z_pk o = z_pk q0) := by
  unfold k_Mo_first_120
  refine po_i (fun _ => ?_) (fun _ => ?_)
  ·
    exact m_k_Mo_first_142 q0 x1 x2 q hq
  ·
    refine po_i (fun _ => ?_) (fun _ => ?_)
    ·
      exact m_k_Mo_first_142 q0 x1 x2 q hq
    ·
      refine po_b (m_f_Mo_turn q0 x1 q hq) (fun r48 h_r48 => ?_)
      exact m_k_Mo_first_415 q0 r48 h_r48
set_option maxHeartbeats 4000000 in
set_option maxRecDepth 100000 in
theorem d_k_Mo_first_120 (q0 : z_Sg) (x1 : Int32) (x2 : Int32) (q : z_Sg) (hq : z_pn q = z_pn q0) (hd : ¬ z_gI q0 4 = -1) : z_po (k_Mo_first_120 x1 x2 q) (fun o : z_Sg => z_pn o = z_pn q0) := by
  unfold k_Mo_first_120
  refine po_i (fun _ => ?_) (fun _ => ?_)
  ·
    exact d_k_Mo_first_142 q0 x1 x2 q hq hd
  ·
    refine po_i (fun _ => ?_) (fun _ => ?_)
    ·
      exact d_k_Mo_first_142 q0 x1 x2 q hq hd
    ·
      refine po_b (d_f_Mo_turn q0 x1 q hq) (fun r48 h_r48 => ?_)
      exact d_k_Mo_first_415 q0 r48 h_r48
set_option maxHeartbeats 4000000 in
set_option maxRecDepth 100000 in
theorem m_k_Mo_first_67 (q0 : z_Sg) (x1 : Int32) (x2 : Int32) (q : z_Sg) (hq : z_pk q = z_pk q0) : z_po (k_Mo_first_67 x1 x2 q) (fun o : z_Sg => z_pk o = z_pk q0) := by
  unfold k_Mo_first_67
  refine po_i (fun _ => ?_) (fun _ => ?_)
  ·
    exact m_k_Mo_first_88 q0 x1 x2 q hq
  ·
    refine po_i (fun _ => ?_) (fun _ => ?_)
    ·
      exact m_k_Mo_first_88 q0 x1 x2 q hq
    ·
      refine po_i (fun _ => ?_) (fun _ => ?_)
      ·
        exact m_k_Mo_first_88 q0 x1 x2 q hq
      ·
        refine po_i (fun _ => ?_) (fun _ => ?_)
        ·
          exact m_k_Mo_first_120 q0 x1 x2 q hq
        ·
          refine po_i (fun _ => ?_) (fun _ => ?_)
          ·
            exact m_k_Mo_first_120 q0 x1 x2 q hq
          ·
            refine po_b (m_f_Mo_move q0 x1 x2 q hq) (fun r50 h_r50 => ?_)
            exact m_k_Mo_first_415 q0 r50 h_r50
set_option maxHeartbeats 4000000 in
set_option maxRecDepth 100000 in
theorem d_k_Mo_first_67 (q0 : z_Sg) (x1 : Int32) (x2 : Int32) (q : z_Sg) (hq : z_pn q = z_pn q0) (hd : ¬ z_gI q0 4 = -1) : z_po (k_Mo_first_67 x1 x2 q) (fun o : z_Sg => z_pn o = z_pn q0) := by
  unfold k_Mo_first_67
  refine po_i (fun _ => ?_) (fun _ => ?_)
  ·
    exact d_k_Mo_first_88 q0 x1 x2 q hq hd
  ·
    refine po_i (fun _ => ?_) (fun _ => ?_)
    ·
      exact d_k_Mo_first_88 q0 x1 x2 q hq hd
    ·
      refine po_i (fun _ => ?_) (fun _ => ?_)
      ·
        exact d_k_Mo_first_88 q0 x1 x2 q hq hd
      ·
        refine po_i (fun _ => ?_) (fun _ => ?_)
        ·
          exact d_k_Mo_first_120 q0 x1 x2 q hq hd
        ·
          refine po_i (fun _ => ?_) (fun _ => ?_)
          ·
            exact d_k_Mo_first_120 q0 x1 x2 q hq hd
          ·
            refine po_b (d_f_Mo_move q0 x1 x2 q hq hd) (fun r50 h_r50 => ?_)
            exact d_k_Mo_first_415 q0 r50 h_r50
set_option maxHeartbeats 4000000 in
set_option maxRecDepth 100000 in
theorem m_k_Mo_first_42 (q0 : z_Sg) (x1 : Int32) (x2 : Int32) (q : z_Sg) (hq : z_pk q = z_pk q0) : z_po (k_Mo_first_42 x1 x2 q) (fun o : z_Sg => z_pk o = z_pk q0) := by
  unfold k_Mo_first_42
  refine po_i (fun _ => ?_) (fun _ => ?_)
  ·
    exact m_k_Mo_first_67 q0 x1 x2 q hq
  ·
    refine po_i (fun _ => ?_) (fun _ => ?_)
    ·
      exact m_k_Mo_first_67 q0 x1 x2 q hq
    ·
      refine po_b (R := fun _ => True) (fun _ _ => trivial) (fun r52 _ => ?_)
      refine po_b (m_f_Mo_branch q0 r52 (1 : Int32) q hq) (fun r53 h_r53 => ?_)
      exact m_k_Mo_first_415 q0 r53 h_r53
set_option maxHeartbeats 4000000 in
set_option maxRecDepth 100000 in
theorem d_k_Mo_first_42 (q0 : z_Sg) (x1 : Int32) (x2 : Int32) (q : z_Sg) (hq : z_pn q = z_pn q0) (hd : ¬ z_gI q0 4 = -1) : z_po (k_Mo_first_42 x1 x2 q) (fun o : z_Sg => z_pn o = z_pn q0) := by
  unfold k_Mo_first_42
  refine po_i (fun _ => ?_) (fun _ => ?_)
  ·
    exact d_k_Mo_first_67 q0 x1 x2 q hq hd
  ·
    refine po_i (fun _ => ?_) (fun _ => ?_)
    ·
      exact d_k_Mo_first_67 q0 x1 x2 q hq hd
    ·
      refine po_b (R := fun _ => True) (fun _ _ => trivial) (fun r52 _ => ?_)
      refine po_b (d_f_Mo_branch q0 r52 (1 : Int32) q hq hd) (fun r53 h_r53 => ?_)
      exact d_k_Mo_first_415 q0 r53 h_r53
set_option maxHeartbeats 4000000 in
set_option maxRecDepth 100000 in
theorem m_f_Mo_first (q0 : z_Sg) (x1 : Int32) (x2 : Int32) (q : z_Sg) (hq : z_pk q = z_pk q0) : z_po (f_Mo_first x1 x2 q) (fun o : z_Sg => z_pk o = z_pk q0) := by
  unfold f_Mo_first
  refine po_i (fun _ => ?_) (fun _ => ?_)
  ·
    refine po_i (fun _ => ?_) (fun _ => ?_)
    ·
      exact m_k_Mo_first_42 q0 x1 x2 q hq
    ·
      refine po_i (fun _ => ?_) (fun _ => ?_)
      ·
        exact m_k_Mo_first_42 q0 x1 x2 q hq
      ·
        refine po_b (m_f_Mo_shortStack q0 x1 q hq) (fun r55 h_r55 => ?_)
        exact m_k_Mo_first_415 q0 r55 h_r55
  ·
    refine po_b (m_f_Mo_arithmetic q0 (x1 / (8 : Int32)) (x1 - ((x1 / (8 : Int32)) * (8 : Int32))) x2 q hq) (fun r56 h_r56 => ?_)
    exact m_k_Mo_first_415 q0 r56 h_r56
set_option maxHeartbeats 4000000 in
set_option maxRecDepth 100000 in
theorem d_f_Mo_first (q0 : z_Sg) (x1 : Int32) (x2 : Int32) (q : z_Sg) (hq : z_pn q = z_pn q0) (hd : ¬ z_gI q0 4 = -1) : z_po (f_Mo_first x1 x2 q) (fun o : z_Sg => z_pn o = z_pn q0) := by
  unfold f_Mo_first
  refine po_i (fun _ => ?_) (fun _ => ?_)
  ·
    refine po_i (fun _ => ?_) (fun _ => ?_)
    ·
      exact d_k_Mo_first_42 q0 x1 x2 q hq hd
    ·
      refine po_i (fun _ => ?_) (fun _ => ?_)
      ·
        exact d_k_Mo_first_42 q0 x1 x2 q hq hd
      ·
        refine po_b (d_f_Mo_shortStack q0 x1 q hq hd) (fun r55 h_r55 => ?_)
        exact d_k_Mo_first_415 q0 r55 h_r55
  ·
    refine po_b (d_f_Mo_arithmetic q0 (x1 / (8 : Int32)) (x1 - ((x1 / (8 : Int32)) * (8 : Int32))) x2 q hq hd) (fun r56 h_r56 => ?_)
    exact d_k_Mo_first_415 q0 r56 h_r56
set_option maxHeartbeats 4000000 in
set_option maxRecDepth 100000 in
theorem m_k_Mo_system_116 (q0 : z_Sg) (q : z_Sg) (hq : z_pk q = z_pk q0) : z_po (k_Mo_system_116 q) (fun o : z_Sg => z_pk o = z_pk q0) := by
  unfold k_Mo_system_116
  exact po_s hq
set_option maxHeartbeats 4000000 in
set_option maxRecDepth 100000 in
theorem d_k_Mo_system_116 (q0 : z_Sg) (q : z_Sg) (hq : z_pn q = z_pn q0) : z_po (k_Mo_system_116 q) (fun o : z_Sg => z_pn o = z_pn q0) := by
  unfold k_Mo_system_116
  exact po_s hq
set_option maxHeartbeats 4000000 in
set_option maxRecDepth 100000 in
theorem m_k_Mo_system_81 (q0 : z_Sg) (q : z_Sg) (hq : z_pk q = z_pk q0) : z_po (k_Mo_system_81 q) (fun o : z_Sg => z_pk o = z_pk q0) := by
  unfold k_Mo_system_81
  refine po_b (m_f_Mo_refuse q0 (13 : Int32) q hq) (fun r3 h_r3 => ?_)
  exact m_k_Mo_system_116 q0 r3 h_r3
set_option maxHeartbeats 4000000 in
set_option maxRecDepth 100000 in
theorem d_k_Mo_system_81 (q0 : z_Sg) (q : z_Sg) (hq : z_pn q = z_pn q0) (hd : ¬ z_gI q0 4 = -1) : z_po (k_Mo_system_81 q) (fun o : z_Sg => z_pn o = z_pn q0) := by
  unfold k_Mo_system_81
  refine po_b (d_f_Mo_refuse q0 (13 : Int32) q hq hd) (fun r3 h_r3 => ?_)
  exact d_k_Mo_system_116 q0 r3 h_r3
set_option maxHeartbeats 4000000 in
set_option maxRecDepth 100000 in
theorem m_f_Mo_system (q0 : z_Sg) (x1 : Int32) (q : z_Sg) (hq : z_pk q = z_pk q0) : z_po (f_Mo_system x1 q) (fun o : z_Sg => z_pk o = z_pk q0) := by
  unfold f_Mo_system
  refine po_i (fun _ => ?_) (fun _ => ?_)
  ·
    refine po_i (fun _ => ?_) (fun _ => ?_)
    ·
      refine po_g (fun _ => ?_)
      refine po_b (R := fun _ => True) (fun _ _ => trivial) (fun r5 _ => ?_)
      refine po_i (fun _ => ?_) (fun _ => ?_)
      ·
        refine po_g (fun _ => ?_)
        refine po_n (fun q8 e_q8 => ?_)
        have h_q8 : z_pk q8 = z_pk q0 := by rw [e_q8]; exact hq
        refine po_g (fun _ => ?_)
        refine po_b (m_f_Mo_setFlags q0 (z_gM q8 0 (11 : Int32).toNatClampNeg) q8 h_q8) (fun r10 h_r10 => ?_)
        refine po_n (fun q11 e_q11 => ?_)
        have h_q11 : z_pk q11 = z_pk q0 := by rw [e_q11]; exact h_r10
        exact m_k_Mo_system_116 q0 q11 h_q11
      ·
        exact m_k_Mo_system_81 q0 q hq
    ·
      exact m_k_Mo_system_81 q0 q hq
  ·
    refine po_g (fun _ => ?_)
    refine po_n (fun q13 e_q13 => ?_)
    have h_q13 : z_pk q13 = z_pk q0 := by rw [e_q13]; exact hq
    refine po_b (R := fun _ => True) (fun _ _ => trivial) (fun r14 _ => ?_)
    refine po_g (fun _ => ?_)
    refine po_n (fun q16 e_q16 => ?_)
    have h_q16 : z_pk q16 = z_pk q0 := by rw [e_q16]; exact h_q13
    refine po_n (fun q17 e_q17 => ?_)
    have h_q17 : z_pk q17 = z_pk q0 := by rw [e_q17]; exact h_q16
    refine po_b (R := fun _ => True) (fun _ _ => trivial) (fun r18 _ => ?_)
    refine po_b (m_f_Mo_setFlags q0 (r18 &&& ((z_gL q17 3) ^^^ (-1 : Int64))) q17 h_q17) (fun r19 h_r19 => ?_)
    refine po_n (fun q20 e_q20 => ?_)
    have h_q20 : z_pk q20 = z_pk q0 := by rw [e_q20]; exact h_r19
    exact m_k_Mo_system_116 q0 q20 h_q20
set_option maxHeartbeats 4000000 in
set_option maxRecDepth 100000 in
theorem d_f_Mo_system (q0 : z_Sg) (x1 : Int32) (q : z_Sg) (hq : z_pn q = z_pn q0) (hd : ¬ z_gI q0 4 = -1) : z_po (f_Mo_system x1 q) (fun o : z_Sg => z_pn o = z_pn q0) := by
  unfold f_Mo_system
  refine po_i (fun _ => ?_) (fun _ => ?_)
  ·
    refine po_i (fun _ => ?_) (fun _ => ?_)
    ·
      refine po_g (fun _ => ?_)
      refine po_b (R := fun _ => True) (fun _ _ => trivial) (fun r5 _ => ?_)
      refine po_i (fun _ => ?_) (fun _ => ?_)
      ·
        refine po_g (fun _ => ?_)
        refine po_n (fun q8 e_q8 => ?_)
        have h_q8 : z_pn q8 = z_pn q0 := by rw [e_q8]; exact hq
        refine po_g (fun _ => ?_)
        refine po_b (d_f_Mo_setFlags q0 (z_gM q8 0 (11 : Int32).toNatClampNeg) q8 h_q8) (fun r10 h_r10 => ?_)
        refine po_n (fun q11 e_q11 => ?_)
        have h_q11 : z_pn q11 = z_pn q0 := by rw [e_q11]; exact h_r10
        exact d_k_Mo_system_116 q0 q11 h_q11
      ·
        exact d_k_Mo_system_81 q0 q hq hd
    ·
      exact d_k_Mo_system_81 q0 q hq hd
  ·
    refine po_g (fun _ => ?_)
    refine po_n (fun q13 e_q13 => ?_)
    have h_q13 : z_pn q13 = z_pn q0 := by rw [e_q13]; exact hq
    refine po_b (R := fun _ => True) (fun _ _ => trivial) (fun r14 _ => ?_)
    refine po_g (fun _ => ?_)
    refine po_n (fun q16 e_q16 => ?_)
    have h_q16 : z_pn q16 = z_pn q0 := by rw [e_q16]; exact h_q13
    refine po_n (fun q17 e_q17 => ?_)
    have h_q17 : z_pn q17 = z_pn q0 := by rw [e_q17]; exact h_q16
    refine po_b (R := fun _ => True) (fun _ _ => trivial) (fun r18 _ => ?_)
    refine po_b (d_f_Mo_setFlags q0 (r18 &&& ((z_gL q17 3) ^^^ (-1 : Int64))) q17 h_q17) (fun r19 h_r19 => ?_)
    refine po_n (fun q20 e_q20 => ?_)
    have h_q20 : z_pn q20 = z_pn q0 := by rw [e_q20]; exact h_r19
    exact d_k_Mo_system_116 q0 q20 h_q20
set_option maxHeartbeats 4000000 in
set_option maxRecDepth 100000 in
theorem m_k_Mo_bit_239 (q0 : z_Sg) (q : z_Sg) (hq : z_pk q = z_pk q0) : z_po (k_Mo_bit_239 q) (fun o : z_Sg => z_pk o = z_pk q0) := by
  unfold k_Mo_bit_239
  refine po_b (m_f_Mo_leave q0 (6 : Int32) q hq) (fun r22 h_r22 => ?_)
  refine po_b (m_f_Mo_leave q0 (4 : Int32) r22 h_r22) (fun r23 h_r23 => ?_)
  refine po_b (m_f_Mo_leave q0 (2 : Int32) r23 h_r23) (fun r24 h_r24 => ?_)
  refine po_b (m_f_Mo_leave q0 (1 : Int32) r24 h_r24) (fun r25 h_r25 => ?_)
  exact po_s h_r25
set_option maxHeartbeats 4000000 in
set_option maxRecDepth 100000 in
theorem d_k_Mo_bit_239 (q0 : z_Sg) (q : z_Sg) (hq : z_pn q = z_pn q0) : z_po (k_Mo_bit_239 q) (fun o : z_Sg => z_pn o = z_pn q0) := by
  unfold k_Mo_bit_239
  refine po_b (d_f_Mo_leave q0 (6 : Int32) q hq) (fun r22 h_r22 => ?_)
  refine po_b (d_f_Mo_leave q0 (4 : Int32) r22 h_r22) (fun r23 h_r23 => ?_)
  refine po_b (d_f_Mo_leave q0 (2 : Int32) r23 h_r23) (fun r24 h_r24 => ?_)
  refine po_b (d_f_Mo_leave q0 (1 : Int32) r24 h_r24) (fun r25 h_r25 => ?_)
  exact po_s h_r25
set_option maxHeartbeats 4000000 in
set_option maxRecDepth 100000 in
theorem m_k_Mo_bit_223 (q0 : z_Sg) (x2 : Int32) (x5 : Int32) (x7 : Int64) (x9 : Int64) (q : z_Sg) (hq : z_pk q = z_pk q0) : z_po (k_Mo_bit_223 x2 x5 x7 x9 q) (fun o : z_Sg => z_pk o = z_pk q0) := by
  unfold k_Mo_bit_223
  refine po_i (fun _ => ?_) (fun _ => ?_)
  ·
    refine po_b (m_f_Mo_setE q0 x2 (x7 ^^^ x9) q hq) (fun r26 h_r26 => ?_)
    exact m_k_Mo_bit_239 q0 r26 h_r26
  ·
    exact m_k_Mo_bit_239 q0 q hq
set_option maxHeartbeats 4000000 in
set_option maxRecDepth 100000 in
theorem d_k_Mo_bit_223 (q0 : z_Sg) (x2 : Int32) (x5 : Int32) (x7 : Int64) (x9 : Int64) (q : z_Sg) (hq : z_pn q = z_pn q0) : z_po (k_Mo_bit_223 x2 x5 x7 x9 q) (fun o : z_Sg => z_pn o = z_pn q0) := by
  unfold k_Mo_bit_223
  refine po_i (fun _ => ?_) (fun _ => ?_)
  ·
    refine po_b (d_f_Mo_setE q0 x2 (x7 ^^^ x9) q hq) (fun r26 h_r26 => ?_)
    exact d_k_Mo_bit_239 q0 r26 h_r26
  ·
    exact d_k_Mo_bit_239 q0 q hq
set_option maxHeartbeats 4000000 in
set_option maxRecDepth 100000 in
theorem m_k_Mo_bit_203 (q0 : z_Sg) (x2 : Int32) (x5 : Int32) (x7 : Int64) (x9 : Int64) (q : z_Sg) (hq : z_pk q = z_pk q0) : z_po (k_Mo_bit_203 x2 x5 x7 x9 q) (fun o : z_Sg => z_pk o = z_pk q0) := by
  unfold k_Mo_bit_203
  refine po_i (fun _ => ?_) (fun _ => ?_)
  ·
    refine po_b (m_f_Mo_setE q0 x2 (x7 &&& (x9 ^^^ (-1 : Int64))) q hq) (fun r27 h_r27 => ?_)
    exact m_k_Mo_bit_223 q0 x2 x5 x7 x9 r27 h_r27
  ·
    exact m_k_Mo_bit_223 q0 x2 x5 x7 x9 q hq
set_option maxHeartbeats 4000000 in
set_option maxRecDepth 100000 in
theorem d_k_Mo_bit_203 (q0 : z_Sg) (x2 : Int32) (x5 : Int32) (x7 : Int64) (x9 : Int64) (q : z_Sg) (hq : z_pn q = z_pn q0) : z_po (k_Mo_bit_203 x2 x5 x7 x9 q) (fun o : z_Sg => z_pn o = z_pn q0) := by
  unfold k_Mo_bit_203
  refine po_i (fun _ => ?_) (fun _ => ?_)
  ·
    refine po_b (d_f_Mo_setE q0 x2 (x7 &&& (x9 ^^^ (-1 : Int64))) q hq) (fun r27 h_r27 => ?_)
    exact d_k_Mo_bit_223 q0 x2 x5 x7 x9 r27 h_r27
  ·
    exact d_k_Mo_bit_223 q0 x2 x5 x7 x9 q hq
set_option maxHeartbeats 4000000 in
set_option maxRecDepth 100000 in
theorem m_k_Mo_bit_180 (q0 : z_Sg) (x2 : Int32) (x5 : Int32) (x6 : Int32) (x7 : Int64) (t1 : Int32) (t2 : Int32) (q : z_Sg) (hq : z_pk q = z_pk q0) : z_po (k_Mo_bit_180 x2 x5 x6 x7 t1 t2 q) (fun o : z_Sg => z_pk o = z_pk q0) := by
  unfold k_Mo_bit_180
  refine po_g (fun _ => ?_)
  refine po_n (fun q17 e_q17 => ?_)
  have h_q17 : z_pk q17 = z_pk q0 := by rw [e_q17]; exact hq
  refine po_n (fun n18 _ => ?_)
  refine po_i (fun _ => ?_) (fun _ => ?_)
  ·
    refine po_b (m_f_Mo_setE q0 x2 (x7 ||| n18) q17 h_q17) (fun r28 h_r28 => ?_)
    exact m_k_Mo_bit_203 q0 x2 x5 x7 n18 r28 h_r28
  ·
    exact m_k_Mo_bit_203 q0 x2 x5 x7 n18 q17 h_q17
set_option maxHeartbeats 4000000 in
set_option maxRecDepth 100000 in
theorem d_k_Mo_bit_180 (q0 : z_Sg) (x2 : Int32) (x5 : Int32) (x6 : Int32) (x7 : Int64) (t1 : Int32) (t2 : Int32) (q : z_Sg) (hq : z_pn q = z_pn q0) : z_po (k_Mo_bit_180 x2 x5 x6 x7 t1 t2 q) (fun o : z_Sg => z_pn o = z_pn q0) := by
  unfold k_Mo_bit_180
  refine po_g (fun _ => ?_)
  refine po_n (fun q17 e_q17 => ?_)
  have h_q17 : z_pn q17 = z_pn q0 := by rw [e_q17]; exact hq
  refine po_n (fun n18 _ => ?_)
  refine po_i (fun _ => ?_) (fun _ => ?_)
  ·
    refine po_b (d_f_Mo_setE q0 x2 (x7 ||| n18) q17 h_q17) (fun r28 h_r28 => ?_)
    exact d_k_Mo_bit_203 q0 x2 x5 x7 n18 r28 h_r28
  ·
    exact d_k_Mo_bit_203 q0 x2 x5 x7 n18 q17 h_q17
set_option maxHeartbeats 4000000 in
set_option maxRecDepth 100000 in
theorem m_k_Mo_bit_153 (q0 : z_Sg) (x2 : Int32) (x5 : Int32) (x6 : Int32) (t1 : Int32) (t2 : Int32) (q : z_Sg) (hq : z_pk q = z_pk q0) : z_po (k_Mo_bit_153 x2 x5 x6 t1 t2 q) (fun o : z_Sg => z_pk o = z_pk q0) := by
  unfold k_Mo_bit_153
  refine po_b (m_f_Mo_e q0 t1 t2 q hq) (fun r14 h_r14 => ?_)
  refine po_i (fun _ => ?_) (fun _ => ?_)
  ·
    exact m_k_Mo_bit_180 q0 x2 x5 x6 r14.1 (0 : Int32) (1 : Int32) r14.2 h_r14
  ·
    exact m_k_Mo_bit_180 q0 x2 x5 x6 r14.1 (0 : Int32) (0 : Int32) r14.2 h_r14
set_option maxHeartbeats 4000000 in
set_option maxRecDepth 100000 in
theorem d_k_Mo_bit_153 (q0 : z_Sg) (x2 : Int32) (x5 : Int32) (x6 : Int32) (t1 : Int32) (t2 : Int32) (q : z_Sg) (hq : z_pn q = z_pn q0) (hd : ¬ z_gI q0 4 = -1) : z_po (k_Mo_bit_153 x2 x5 x6 t1 t2 q) (fun o : z_Sg => z_pn o = z_pn q0) := by
  unfold k_Mo_bit_153
  refine po_b (d_f_Mo_e q0 t1 t2 q hq hd) (fun r14 h_r14 => ?_)
  refine po_i (fun _ => ?_) (fun _ => ?_)
  ·
    exact d_k_Mo_bit_180 q0 x2 x5 x6 r14.1 (0 : Int32) (1 : Int32) r14.2 h_r14
  ·
    exact d_k_Mo_bit_180 q0 x2 x5 x6 r14.1 (0 : Int32) (0 : Int32) r14.2 h_r14
set_option maxHeartbeats 4000000 in
set_option maxRecDepth 100000 in
theorem m_k_Mo_bit_141 (q0 : z_Sg) (x2 : Int32) (x5 : Int32) (x6 : Int32) (q : z_Sg) (hq : z_pk q = z_pk q0) : z_po (k_Mo_bit_141 x2 x5 x6 q) (fun o : z_Sg => z_pk o = z_pk q0) := by
  unfold k_Mo_bit_141
  refine po_i (fun _ => ?_) (fun _ => ?_)
  ·
    exact m_k_Mo_bit_153 q0 x2 x5 x6 x2 (0 : Int32) q hq
  ·
    exact m_k_Mo_bit_153 q0 x2 x5 x6 x2 (1 : Int32) q hq
set_option maxHeartbeats 4000000 in
set_option maxRecDepth 100000 in
theorem d_k_Mo_bit_141 (q0 : z_Sg) (x2 : Int32) (x5 : Int32) (x6 : Int32) (q : z_Sg) (hq : z_pn q = z_pn q0) (hd : ¬ z_gI q0 4 = -1) : z_po (k_Mo_bit_141 x2 x5 x6 q) (fun o : z_Sg => z_pn o = z_pn q0) := by
  unfold k_Mo_bit_141
  refine po_i (fun _ => ?_) (fun _ => ?_)
  ·
    exact d_k_Mo_bit_153 q0 x2 x5 x6 x2 (0 : Int32) q hq hd
  ·
    exact d_k_Mo_bit_153 q0 x2 x5 x6 x2 (1 : Int32) q hq hd
set_option maxHeartbeats 4000000 in
set_option maxRecDepth 100000 in
theorem m_k_Mo_bit_97 (q0 : z_Sg) (x1 : Int32) (x2 : Int32) (x3 : Int64) (t0 : Int32) (q : z_Sg) (hq : z_pk q = z_pk q0) : z_po (k_Mo_bit_97 x1 x2 x3 t0 q) (fun o : z_Sg => z_pk o = z_pk q0) := by
  unfold k_Mo_bit_97
  refine po_b (R := fun _ => True) (fun _ _ => trivial) (fun r10 _ => ?_)
  refine po_n (fun n11 _ => ?_)
  refine po_i (fun _ => ?_) (fun _ => ?_)
  ·
    exact m_k_Mo_bit_141 q0 x2 t0 n11 q hq
  ·
    refine po_b (R := fun _ => True) (fun _ _ => trivial) (fun r29 _ => ?_)
    refine po_n (fun q30 e_q30 => ?_)
    have h_q30 : z_pk q30 = z_pk q0 := by rw [e_q30]; exact hq
    exact m_k_Mo_bit_141 q0 x2 t0 n11 q30 h_q30
set_option maxHeartbeats 4000000 in
set_option maxRecDepth 100000 in
theorem d_k_Mo_bit_97 (q0 : z_Sg) (x1 : Int32) (x2 : Int32) (x3 : Int64) (t0 : Int32) (q : z_Sg) (hq : z_pn q = z_pn q0) (hd : ¬ z_gI q0 4 = -1) : z_po (k_Mo_bit_97 x1 x2 x3 t0 q) (fun o : z_Sg => z_pn o = z_pn q0) := by
  unfold k_Mo_bit_97
  refine po_b (R := fun _ => True) (fun _ _ => trivial) (fun r10 _ => ?_)
  refine po_n (fun n11 _ => ?_)
  refine po_i (fun _ => ?_) (fun _ => ?_)
  ·
    exact d_k_Mo_bit_141 q0 x2 t0 n11 q hq hd
  ·
    refine po_b (R := fun _ => True) (fun _ _ => trivial) (fun r29 _ => ?_)
    refine po_n (fun q30 e_q30 => ?_)
    have h_q30 : z_pn q30 = z_pn q0 := by rw [e_q30]; exact hq
    exact d_k_Mo_bit_141 q0 x2 t0 n11 q30 h_q30 hd
set_option maxHeartbeats 4000000 in
set_option maxRecDepth 100000 in
theorem m_k_Mo_bit_58 (q0 : z_Sg) (x1 : Int32) (x2 : Int32) (t0 : Int64) (q : z_Sg) (hq : z_pk q = z_pk q0) : z_po (k_Mo_bit_58 x1 x2 t0 q) (fun o : z_Sg => z_pk o = z_pk q0) := by
  unfold k_Mo_bit_58
  refine po_n (fun q8 e_q8 => ?_)
  have h_q8 : z_pk q8 = z_pk q0 := by rw [e_q8]; exact hq
  refine po_i (fun _ => ?_) (fun _ => ?_)
  ·
    exact m_k_Mo_bit_97 q0 x1 x2 t0 ((z_gI q8 8) - (4 : Int32)) q8 h_q8
  ·
    exact m_k_Mo_bit_97 q0 x1 x2 t0 ((x1 - (163 : Int32)) / (8 : Int32)) q8 h_q8
set_option maxHeartbeats 4000000 in
set_option maxRecDepth 100000 in
theorem d_k_Mo_bit_58 (q0 : z_Sg) (x1 : Int32) (x2 : Int32) (t0 : Int64) (q : z_Sg) (hq : z_pn q = z_pn q0) (hd : ¬ z_gI q0 4 = -1) : z_po (k_Mo_bit_58 x1 x2 t0 q) (fun o : z_Sg => z_pn o = z_pn q0) := by
  unfold k_Mo_bit_58
  refine po_n (fun q8 e_q8 => ?_)
  have h_q8 : z_pn q8 = z_pn q0 := by rw [e_q8]; exact hq
  refine po_i (fun _ => ?_) (fun _ => ?_)
  ·
    exact d_k_Mo_bit_97 q0 x1 x2 t0 ((z_gI q8 8) - (4 : Int32)) q8 h_q8 hd
  ·
    exact d_k_Mo_bit_97 q0 x1 x2 t0 ((x1 - (163 : Int32)) / (8 : Int32)) q8 h_q8 hd
set_option maxHeartbeats 4000000 in
set_option maxRecDepth 100000 in
theorem m_k_Mo_bit_30 (q0 : z_Sg) (x1 : Int32) (x2 : Int32) (q : z_Sg) (hq : z_pk q = z_pk q0) : z_po (k_Mo_bit_30 x1 x2 q) (fun o : z_Sg => z_pk o = z_pk q0) := by
  unfold k_Mo_bit_30
  refine po_b (m_f_Mo_takePlace q0 q hq) (fun r4 h_r4 => ?_)
  refine po_i (fun _ => ?_) (fun _ => ?_)
  ·
    refine po_b (m_f_Mo_fetch q0 r4 h_r4) (fun r31 h_r31 => ?_)
    exact m_k_Mo_bit_58 q0 x1 x2 r31.1.toInt64 r31.2 h_r31
  ·
    refine po_b (R := fun _ => True) (fun _ _ => trivial) (fun r6 _ => ?_)
    refine po_b (R := fun _ => True) (fun _ _ => trivial) (fun r7 _ => ?_)
    exact m_k_Mo_bit_58 q0 x1 x2 r7 r4 h_r4
set_option maxHeartbeats 4000000 in
set_option maxRecDepth 100000 in
theorem d_k_Mo_bit_30 (q0 : z_Sg) (x1 : Int32) (x2 : Int32) (q : z_Sg) (hq : z_pn q = z_pn q0) (hd : ¬ z_gI q0 4 = -1) : z_po (k_Mo_bit_30 x1 x2 q) (fun o : z_Sg => z_pn o = z_pn q0) := by
  unfold k_Mo_bit_30
  refine po_b (d_f_Mo_takePlace q0 q hq hd) (fun r4 h_r4 => ?_)
  refine po_i (fun _ => ?_) (fun _ => ?_)
  ·
    refine po_b (d_f_Mo_fetch q0 r4 h_r4 hd) (fun r31 h_r31 => ?_)
    exact d_k_Mo_bit_58 q0 x1 x2 r31.1.toInt64 r31.2 h_r31 hd
  ·
    refine po_b (R := fun _ => True) (fun _ _ => trivial) (fun r6 _ => ?_)
    refine po_b (R := fun _ => True) (fun _ _ => trivial) (fun r7 _ => ?_)
    exact d_k_Mo_bit_58 q0 x1 x2 r7 r4 h_r4 hd
set_option maxHeartbeats 4000000 in
set_option maxRecDepth 100000 in
theorem m_f_Mo_bit (q0 : z_Sg) (x1 : Int32) (q : z_Sg) (hq : z_pk q = z_pk q0) : z_po (f_Mo_bit x1 q) (fun o : z_Sg => z_pk o = z_pk q0) := by
  unfold f_Mo_bit
  refine po_b (R := fun _ => True) (fun _ _ => trivial) (fun r1 _ => ?_)
  refine po_b (m_f_Mo_takeMod q0 q hq) (fun r2 h_r2 => ?_)
  refine po_i (fun _ => ?_) (fun _ => ?_)
  ·
    refine po_i (fun _ => ?_) (fun _ => ?_)
    ·
      exact m_k_Mo_bit_30 q0 x1 r1 r2 h_r2
    ·
      refine po_b (m_f_Mo_refuse q0 (6 : Int32) r2 h_r2) (fun r33 h_r33 => ?_)
      exact m_k_Mo_bit_30 q0 x1 r1 r33 h_r33
  ·
    exact m_k_Mo_bit_30 q0 x1 r1 r2 h_r2
set_option maxHeartbeats 4000000 in
set_option maxRecDepth 100000 in
theorem d_f_Mo_bit (q0 : z_Sg) (x1 : Int32) (q : z_Sg) (hq : z_pn q = z_pn q0) (hd : ¬ z_gI q0 4 = -1) : z_po (f_Mo_bit x1 q) (fun o : z_Sg => z_pn o = z_pn q0) := by
  unfold f_Mo_bit
  refine po_b (R := fun _ => True) (fun _ _ => trivial) (fun r1 _ => ?_)
  refine po_b (d_f_Mo_takeMod q0 q hq hd) (fun r2 h_r2 => ?_)
  refine po_i (fun _ => ?_) (fun _ => ?_)
  ·
    refine po_i (fun _ => ?_) (fun _ => ?_)
    ·
      exact d_k_Mo_bit_30 q0 x1 r1 r2 h_r2 hd
    ·
      refine po_b (d_f_Mo_refuse q0 (6 : Int32) r2 h_r2 hd) (fun r33 h_r33 => ?_)
      exact d_k_Mo_bit_30 q0 x1 r1 r33 h_r33 hd
  ·
    exact d_k_Mo_bit_30 q0 x1 r1 r2 h_r2 hd
set_option maxHeartbeats 4000000 in
set_option maxRecDepth 100000 in
theorem m_k_Mo_compareAndChange_61 (q0 : z_Sg) (q : z_Sg) (hq : z_pk q = z_pk q0) : z_po (k_Mo_compareAndChange_61 q) (fun o : z_Sg => z_pk o = z_pk q0) := by
  unfold k_Mo_compareAndChange_61
  exact po_s hq
set_option maxHeartbeats 4000000 in
set_option maxRecDepth 100000 in
theorem d_k_Mo_compareAndChange_61 (q0 : z_Sg) (q : z_Sg) (hq : z_pn q = z_pn q0) : z_po (k_Mo_compareAndChange_61 q) (fun o : z_Sg => z_pn o = z_pn q0) := by
  unfold k_Mo_compareAndChange_61
  exact po_s hq
set_option maxHeartbeats 4000000 in
set_option maxRecDepth 100000 in
theorem m_f_Mo_compareAndChange (q0 : z_Sg) (x1 : Int32) (q : z_Sg) (hq : z_pk q = z_pk q0) : z_po (f_Mo_compareAndChange x1 q) (fun o : z_Sg => z_pk o = z_pk q0) := by
  unfold f_Mo_compareAndChange
  refine po_b (m_f_Mo_takeOperand q0 q hq) (fun r1 h_r1 => ?_)
  refine po_b (m_f_Mo_e q0 x1 (1 : Int32) r1 h_r1) (fun r2 h_r2 => ?_)
  refine po_b (R := fun _ => True) (fun _ _ => trivial) (fun r3 _ => ?_)
  refine po_b (m_f_Mo_add q0 r3 r2.1 (0 : Int32) (1 : Int32) x1 r2.2 h_r2) (fun r4 h_r4 => ?_)
  refine po_g (fun _ => ?_)
  refine po_i (fun _ => ?_) (fun _ => ?_)
  ·
    refine po_b (m_f_Mo_setE q0 x1 r2.1 r4.2 h_r4) (fun r7 h_r7 => ?_)
    refine po_b (m_f_Mo_put8 q0 (0 : Int32) x1 r2.1 r7 h_r7) (fun r8 h_r8 => ?_)
    exact m_k_Mo_compareAndChange_61 q0 r8 h_r8
  ·
    refine po_b (R := fun _ => True) (fun _ _ => trivial) (fun r9 _ => ?_)
    refine po_b (m_f_Mo_setE q0 x1 r9 r4.2 h_r4) (fun r10 h_r10 => ?_)
    exact m_k_Mo_compareAndChange_61 q0 r10 h_r10
set_option maxHeartbeats 4000000 in
set_option maxRecDepth 100000 in
theorem d_f_Mo_compareAndChange (q0 : z_Sg) (x1 : Int32) (q : z_Sg) (hq : z_pn q = z_pn q0) (hd : ¬ z_gI q0 4 = -1) : z_po (f_Mo_compareAndChange x1 q) (fun o : z_Sg => z_pn o = z_pn q0) := by
  unfold f_Mo_compareAndChange
  refine po_b (d_f_Mo_takeOperand q0 q hq hd) (fun r1 h_r1 => ?_)
  refine po_b (d_f_Mo_e q0 x1 (1 : Int32) r1 h_r1 hd) (fun r2 h_r2 => ?_)
  refine po_b (R := fun _ => True) (fun _ _ => trivial) (fun r3 _ => ?_)
  refine po_b (d_f_Mo_add q0 r3 r2.1 (0 : Int32) (1 : Int32) x1 r2.2 h_r2) (fun r4 h_r4 => ?_)
  refine po_g (fun _ => ?_)
  refine po_i (fun _ => ?_) (fun _ => ?_)
  ·
    refine po_b (d_f_Mo_setE q0 x1 r2.1 r4.2 h_r4) (fun r7 h_r7 => ?_)
    refine po_b (d_f_Mo_put8 q0 (0 : Int32) x1 r2.1 r7 h_r7) (fun r8 h_r8 => ?_)
    exact d_k_Mo_compareAndChange_61 q0 r8 h_r8
  ·
    refine po_b (R := fun _ => True) (fun _ _ => trivial) (fun r9 _ => ?_)
    refine po_b (d_f_Mo_setE q0 x1 r9 r4.2 h_r4) (fun r10 h_r10 => ?_)
    exact d_k_Mo_compareAndChange_61 q0 r10 h_r10
set_option maxHeartbeats 4000000 in
set_option maxRecDepth 100000 in
theorem m_k_Mo_scan_139 (q0 : z_Sg) (q : z_Sg) (hq : z_pk q = z_pk q0) : z_po (k_Mo_scan_139 q) (fun o : z_Sg => z_pk o = z_pk q0) := by
  unfold k_Mo_scan_139
  exact po_s hq
set_option maxHeartbeats 4000000 in
set_option maxRecDepth 100000 in
theorem d_k_Mo_scan_139 (q0 : z_Sg) (q : z_Sg) (hq : z_pn q = z_pn q0) : z_po (k_Mo_scan_139 q) (fun o : z_Sg => z_pn o = z_pn q0) := by
  unfold k_Mo_scan_139
  exact po_s hq
set_option maxHeartbeats 4000000 in
set_option maxRecDepth 100000 in
theorem m_k_Mo_scan_136 (q0 : z_Sg) (t1 : Int32) (t2 : Int64) (q : z_Sg) (hq : z_pk q = z_pk q0) : z_po (k_Mo_scan_136 t1 t2 q) (fun o : z_Sg => z_pk o = z_pk q0) := by
  unfold k_Mo_scan_136
  refine po_b (m_f_Mo_setG q0 t1 t2 q hq) (fun r12 h_r12 => ?_)
  exact m_k_Mo_scan_139 q0 r12 h_r12
set_option maxHeartbeats 4000000 in
set_option maxRecDepth 100000 in
theorem d_k_Mo_scan_136 (q0 : z_Sg) (t1 : Int32) (t2 : Int64) (q : z_Sg) (hq : z_pn q = z_pn q0) : z_po (k_Mo_scan_136 t1 t2 q) (fun o : z_Sg => z_pn o = z_pn q0) := by
  unfold k_Mo_scan_136
  refine po_b (d_f_Mo_setG q0 t1 t2 q hq) (fun r12 h_r12 => ?_)
  exact d_k_Mo_scan_139 q0 r12 h_r12
set_option maxHeartbeats 4000000 in
set_option maxRecDepth 100000 in
theorem m_k_Mo_scan_108 (q0 : z_Sg) (x1 : Int32) (x4 : Int32) (x5 : Int32) (t1 : Int32) (t2 : Int32) (q : z_Sg) (hq : z_pk q = z_pk q0) : z_po (k_Mo_scan_108 x1 x4 x5 t1 t2 q) (fun o : z_Sg => z_pk o = z_pk q0) := by
  unfold k_Mo_scan_108
  refine po_g (fun _ => ?_)
  refine po_n (fun q8 e_q8 => ?_)
  have h_q8 : z_pk q8 = z_pk q0 := by rw [e_q8]; exact hq
  refine po_i (fun _ => ?_) (fun _ => ?_)
  ·
    exact m_k_Mo_scan_139 q0 q8 h_q8
  ·
    refine po_b (R := fun _ => True) (fun _ _ => trivial) (fun r10 _ => ?_)
    refine po_i (fun _ => ?_) (fun _ => ?_)
    ·
      exact m_k_Mo_scan_136 q0 r10 x4.toInt64 q8 h_q8
    ·
      exact m_k_Mo_scan_136 q0 r10 x5.toInt64 q8 h_q8
set_option maxHeartbeats 4000000 in
set_option maxRecDepth 100000 in
theorem d_k_Mo_scan_108 (q0 : z_Sg) (x1 : Int32) (x4 : Int32) (x5 : Int32) (t1 : Int32) (t2 : Int32) (q : z_Sg) (hq : z_pn q = z_pn q0) : z_po (k_Mo_scan_108 x1 x4 x5 t1 t2 q) (fun o : z_Sg => z_pn o = z_pn q0) := by
  unfold k_Mo_scan_108
  refine po_g (fun _ => ?_)
  refine po_n (fun q8 e_q8 => ?_)
  have h_q8 : z_pn q8 = z_pn q0 := by rw [e_q8]; exact hq
  refine po_i (fun _ => ?_) (fun _ => ?_)
  ·
    exact d_k_Mo_scan_139 q0 q8 h_q8
  ·
    refine po_b (R := fun _ => True) (fun _ _ => trivial) (fun r10 _ => ?_)
    refine po_i (fun _ => ?_) (fun _ => ?_)
    ·
      exact d_k_Mo_scan_136 q0 r10 x4.toInt64 q8 h_q8
    ·
      exact d_k_Mo_scan_136 q0 r10 x5.toInt64 q8 h_q8
set_option maxHeartbeats 4000000 in
set_option maxRecDepth 100000 in
theorem m_k_Mo_scan_86 (q0 : z_Sg) (ih67 : Int32 × Int32 × Int32 × Int32 × z_Sg → Option z_Sg) (x1 : Int32) (x4 : Int32) (x5 : Int32) (x6 : Int32) (q : z_Sg) (h_ih67 : ∀ a : Int32 × Int32 × Int32 × Int32 × z_Sg, z_pk a.2.2.2.2 = z_pk q0 → z_po (ih67 a) (fun o : z_Sg => z_pk o = z_pk q0)) (hq : z_pk q = z_pk q0) : z_po (k_Mo_scan_86 ih67 x1 x4 x5 x6 q) (fun o : z_Sg => z_pk o = z_pk q0) := by
  unfold k_Mo_scan_86
  refine po_n (fun n14 _ => ?_)
  exact h_ih67 _ hq
set_option maxHeartbeats 4000000 in
set_option maxRecDepth 100000 in
theorem d_k_Mo_scan_86 (q0 : z_Sg) (ih67 : Int32 × Int32 × Int32 × Int32 × z_Sg → Option z_Sg) (x1 : Int32) (x4 : Int32) (x5 : Int32) (x6 : Int32) (q : z_Sg) (h_ih67 : ∀ a : Int32 × Int32 × Int32 × Int32 × z_Sg, z_pn a.2.2.2.2 = z_pn q0 → z_po (ih67 a) (fun o : z_Sg => z_pn o = z_pn q0)) (hq : z_pn q = z_pn q0) : z_po (k_Mo_scan_86 ih67 x1 x4 x5 x6 q) (fun o : z_Sg => z_pn o = z_pn q0) := by
  unfold k_Mo_scan_86
  refine po_n (fun n14 _ => ?_)
  exact h_ih67 _ hq
set_option maxHeartbeats 4000000 in
set_option maxRecDepth 100000 in
theorem m_kb_Mo_scan_67 (q0 : z_Sg) (ih67 : Int32 × Int32 × Int32 × Int32 × z_Sg → Option z_Sg) (x1 : Int32) (x4 : Int32) (x5 : Int32) (x6 : Int32) (q : z_Sg) (h_ih67 : ∀ a : Int32 × Int32 × Int32 × Int32 × z_Sg, z_pk a.2.2.2.2 = z_pk q0 → z_po (ih67 a) (fun o : z_Sg => z_pk o = z_pk q0)) (hq : z_pk q = z_pk q0) : z_po (kb_Mo_scan_67 ih67 x1 x4 x5 x6 q) (fun o : z_Sg => z_pk o = z_pk q0) := by
  unfold kb_Mo_scan_67
  refine po_i (fun _ => ?_) (fun _ => ?_)
  ·
    refine po_i (fun _ => ?_) (fun _ => ?_)
    ·
      exact m_k_Mo_scan_108 q0 x1 x4 x5 (3 : Int32) (1 : Int32) q hq
    ·
      exact m_k_Mo_scan_108 q0 x1 x4 x5 (3 : Int32) (0 : Int32) q hq
  ·
    refine po_i (fun _ => ?_) (fun _ => ?_)
    ·
      exact m_k_Mo_scan_86 q0 ih67 x1 x4 x5 x6 q h_ih67 hq
    ·
      refine po_b (m_f_Mo_leave q0 x6 q hq) (fun r15 h_r15 => ?_)
      exact m_k_Mo_scan_86 q0 ih67 x1 x4 x5 x6 r15 h_ih67 h_r15
set_option maxHeartbeats 4000000 in
set_option maxRecDepth 100000 in
theorem d_kb_Mo_scan_67 (q0 : z_Sg) (ih67 : Int32 × Int32 × Int32 × Int32 × z_Sg → Option z_Sg) (x1 : Int32) (x4 : Int32) (x5 : Int32) (x6 : Int32) (q : z_Sg) (h_ih67 : ∀ a : Int32 × Int32 × Int32 × Int32 × z_Sg, z_pn a.2.2.2.2 = z_pn q0 → z_po (ih67 a) (fun o : z_Sg => z_pn o = z_pn q0)) (hq : z_pn q = z_pn q0) : z_po (kb_Mo_scan_67 ih67 x1 x4 x5 x6 q) (fun o : z_Sg => z_pn o = z_pn q0) := by
  unfold kb_Mo_scan_67
  refine po_i (fun _ => ?_) (fun _ => ?_)
  ·
    refine po_i (fun _ => ?_) (fun _ => ?_)
    ·
      exact d_k_Mo_scan_108 q0 x1 x4 x5 (3 : Int32) (1 : Int32) q hq
    ·
      exact d_k_Mo_scan_108 q0 x1 x4 x5 (3 : Int32) (0 : Int32) q hq
  ·
    refine po_i (fun _ => ?_) (fun _ => ?_)
    ·
      exact d_k_Mo_scan_86 q0 ih67 x1 x4 x5 x6 q h_ih67 hq
    ·
      refine po_b (d_f_Mo_leave q0 x6 q hq) (fun r15 h_r15 => ?_)
      exact d_k_Mo_scan_86 q0 ih67 x1 x4 x5 x6 r15 h_ih67 h_r15
set_option maxHeartbeats 4000000 in
set_option maxRecDepth 100000 in
theorem m_k_Mo_scan_67 (q0 : z_Sg) (x1 : Int32) (x4 : Int32) (x5 : Int32) (x6 : Int32) (q : z_Sg) (hq : z_pk q = z_pk q0) : z_po (k_Mo_scan_67 x1 x4 x5 x6 q) (fun o : z_Sg => z_pk o = z_pk q0) := by
  unfold k_Mo_scan_67
  exact po_l (fun a : Int32 × Int32 × Int32 × Int32 × z_Sg => z_pk a.2.2.2.2 = z_pk q0) (fun ih67 a ha hih => m_kb_Mo_scan_67 q0 ih67 a.1 a.2.1 a.2.2.1 a.2.2.2.1 a.2.2.2.2  hih ha) _ _ hq
set_option maxHeartbeats 4000000 in
set_option maxRecDepth 100000 in
theorem d_k_Mo_scan_67 (q0 : z_Sg) (x1 : Int32) (x4 : Int32) (x5 : Int32) (x6 : Int32) (q : z_Sg) (hq : z_pn q = z_pn q0) : z_po (k_Mo_scan_67 x1 x4 x5 x6 q) (fun o : z_Sg => z_pn o = z_pn q0) := by
  unfold k_Mo_scan_67
  exact po_l (fun a : Int32 × Int32 × Int32 × Int32 × z_Sg => z_pn a.2.2.2.2 = z_pn q0) (fun ih67 a ha hih => d_kb_Mo_scan_67 q0 ih67 a.1 a.2.1 a.2.2.1 a.2.2.2.1 a.2.2.2.2  hih ha) _ _ hq
set_option maxHeartbeats 4000000 in
set_option maxRecDepth 100000 in
theorem m_k_Mo_scan_58 (q0 : z_Sg) (ih23 : Int32 × Int64 × Int32 × Int32 × Int32 × z_Sg → Option z_Sg) (x1 : Int32) (x2 : Int64) (x4 : Int32) (x5 : Int32) (x6 : Int32) (q : z_Sg) (h_ih23 : ∀ a : Int32 × Int64 × Int32 × Int32 × Int32 × z_Sg, z_pk a.2.2.2.2.2 = z_pk q0 → z_po (ih23 a) (fun o : z_Sg => z_pk o = z_pk q0)) (hq : z_pk q = z_pk q0) : z_po (k_Mo_scan_58 ih23 x1 x2 x4 x5 x6 q) (fun o : z_Sg => z_pk o = z_pk q0) := by
  unfold k_Mo_scan_58
  refine po_n (fun n18 _ => ?_)
  exact h_ih23 _ hq
set_option maxHeartbeats 4000000 in
set_option maxRecDepth 100000 in
theorem d_k_Mo_scan_58 (q0 : z_Sg) (ih23 : Int32 × Int64 × Int32 × Int32 × Int32 × z_Sg → Option z_Sg) (x1 : Int32) (x2 : Int64) (x4 : Int32) (x5 : Int32) (x6 : Int32) (q : z_Sg) (h_ih23 : ∀ a : Int32 × Int64 × Int32 × Int32 × Int32 × z_Sg, z_pn a.2.2.2.2.2 = z_pn q0 → z_po (ih23 a) (fun o : z_Sg => z_pn o = z_pn q0)) (hq : z_pn q = z_pn q0) : z_po (k_Mo_scan_58 ih23 x1 x2 x4 x5 x6 q) (fun o : z_Sg => z_pn o = z_pn q0) := by
  unfold k_Mo_scan_58
  refine po_n (fun n18 _ => ?_)
  exact h_ih23 _ hq
set_option maxHeartbeats 4000000 in
set_option maxRecDepth 100000 in
theorem m_kb_Mo_scan_23 (q0 : z_Sg) (ih23 : Int32 × Int64 × Int32 × Int32 × Int32 × z_Sg → Option z_Sg) (x1 : Int32) (x2 : Int64) (x4 : Int32) (x5 : Int32) (x6 : Int32) (q : z_Sg) (h_ih23 : ∀ a : Int32 × Int64 × Int32 × Int32 × Int32 × z_Sg, z_pk a.2.2.2.2.2 = z_pk q0 → z_po (ih23 a) (fun o : z_Sg => z_pk o = z_pk q0)) (hq : z_pk q = z_pk q0) : z_po (kb_Mo_scan_23 ih23 x1 x2 x4 x5 x6 q) (fun o : z_Sg => z_pk o = z_pk q0) := by
  unfold kb_Mo_scan_23
  refine po_i (fun _ => ?_) (fun _ => ?_)
  ·
    exact m_k_Mo_scan_67 q0 x1 x4 x5 (0 : Int32) q hq
  ·
    refine po_i (fun _ => ?_) (fun _ => ?_)
    ·
      exact m_k_Mo_scan_58 q0 ih23 x1 x2 x4 x5 x6 q h_ih23 hq
    ·
      refine po_i (fun _ => ?_) (fun _ => ?_)
      ·
        exact m_k_Mo_scan_58 q0 ih23 x1 x2 x6 x6 x6 q h_ih23 hq
      ·
        exact m_k_Mo_scan_58 q0 ih23 x1 x2 x4 x6 x6 q h_ih23 hq
set_option maxHeartbeats 4000000 in
set_option maxRecDepth 100000 in
theorem d_kb_Mo_scan_23 (q0 : z_Sg) (ih23 : Int32 × Int64 × Int32 × Int32 × Int32 × z_Sg → Option z_Sg) (x1 : Int32) (x2 : Int64) (x4 : Int32) (x5 : Int32) (x6 : Int32) (q : z_Sg) (h_ih23 : ∀ a : Int32 × Int64 × Int32 × Int32 × Int32 × z_Sg, z_pn a.2.2.2.2.2 = z_pn q0 → z_po (ih23 a) (fun o : z_Sg => z_pn o = z_pn q0)) (hq : z_pn q = z_pn q0) : z_po (kb_Mo_scan_23 ih23 x1 x2 x4 x5 x6 q) (fun o : z_Sg => z_pn o = z_pn q0) := by
  unfold kb_Mo_scan_23
  refine po_i (fun _ => ?_) (fun _ => ?_)
  ·
    exact d_k_Mo_scan_67 q0 x1 x4 x5 (0 : Int32) q hq
  ·
    refine po_i (fun _ => ?_) (fun _ => ?_)
    ·
      exact d_k_Mo_scan_58 q0 ih23 x1 x2 x4 x5 x6 q h_ih23 hq
    ·
      refine po_i (fun _ => ?_) (fun _ => ?_)
      ·
        exact d_k_Mo_scan_58 q0 ih23 x1 x2 x6 x6 x6 q h_ih23 hq
      ·
        exact d_k_Mo_scan_58 q0 ih23 x1 x2 x4 x6 x6 q h_ih23 hq
set_option maxHeartbeats 4000000 in
set_option maxRecDepth 100000 in
theorem m_k_Mo_scan_23 (q0 : z_Sg) (x1 : Int32) (x2 : Int64) (x4 : Int32) (x5 : Int32) (x6 : Int32) (q : z_Sg) (hq : z_pk q = z_pk q0) : z_po (k_Mo_scan_23 x1 x2 x4 x5 x6 q) (fun o : z_Sg => z_pk o = z_pk q0) := by
  unfold k_Mo_scan_23
  exact po_l (fun a : Int32 × Int64 × Int32 × Int32 × Int32 × z_Sg => z_pk a.2.2.2.2.2 = z_pk q0) (fun ih23 a ha hih => m_kb_Mo_scan_23 q0 ih23 a.1 a.2.1 a.2.2.1 a.2.2.2.1 a.2.2.2.2.1 a.2.2.2.2.2  hih ha) _ _ hq
set_option maxHeartbeats 4000000 in
set_option maxRecDepth 100000 in
theorem d_k_Mo_scan_23 (q0 : z_Sg) (x1 : Int32) (x2 : Int64) (x4 : Int32) (x5 : Int32) (x6 : Int32) (q : z_Sg) (hq : z_pn q = z_pn q0) : z_po (k_Mo_scan_23 x1 x2 x4 x5 x6 q) (fun o : z_Sg => z_pn o = z_pn q0) := by
  unfold k_Mo_scan_23
  exact po_l (fun a : Int32 × Int64 × Int32 × Int32 × Int32 × z_Sg => z_pn a.2.2.2.2.2 = z_pn q0) (fun ih23 a ha hih => d_kb_Mo_scan_23 q0 ih23 a.1 a.2.1 a.2.2.1 a.2.2.2.1 a.2.2.2.2.1 a.2.2.2.2.2  hih ha) _ _ hq
set_option maxHeartbeats 4000000 in
set_option maxRecDepth 100000 in
theorem m_f_Mo_scan (q0 : z_Sg) (x1 : Int32) (q : z_Sg) (hq : z_pk q = z_pk q0) : z_po (f_Mo_scan x1 q) (fun o : z_Sg => z_pk o = z_pk q0) := by
  unfold f_Mo_scan
  refine po_b (m_f_Mo_takeOperand q0 q hq) (fun r1 h_r1 => ?_)
  refine po_b (R := fun _ => True) (fun _ _ => trivial) (fun r2 _ => ?_)
  refine po_b (m_f_Mo_e q0 r2 (0 : Int32) r1 h_r1) (fun r3 h_r3 => ?_)
  exact m_k_Mo_scan_23 q0 x1 r3.1 (-1 : Int32) (-1 : Int32) (0 : Int32) r3.2 h_r3
set_option maxHeartbeats 4000000 in
set_option maxRecDepth 100000 in
theorem d_f_Mo_scan (q0 : z_Sg) (x1 : Int32) (q : z_Sg) (hq : z_pn q = z_pn q0) (hd : ¬ z_gI q0 4 = -1) : z_po (f_Mo_scan x1 q) (fun o : z_Sg => z_pn o = z_pn q0) := by
  unfold f_Mo_scan
  refine po_b (d_f_Mo_takeOperand q0 q hq hd) (fun r1 h_r1 => ?_)
  refine po_b (R := fun _ => True) (fun _ _ => trivial) (fun r2 _ => ?_)
  refine po_b (d_f_Mo_e q0 r2 (0 : Int32) r1 h_r1 hd) (fun r3 h_r3 => ?_)
  exact d_k_Mo_scan_23 q0 x1 r3.1 (-1 : Int32) (-1 : Int32) (0 : Int32) r3.2 h_r3
set_option maxHeartbeats 4000000 in
set_option maxRecDepth 100000 in
theorem m_f_Mo_addAndChange (q0 : z_Sg) (x1 : Int32) (q : z_Sg) (hq : z_pk q = z_pk q0) : z_po (f_Mo_addAndChange x1 q) (fun o : z_Sg => z_pk o = z_pk q0) := by
  unfold f_Mo_addAndChange
  refine po_b (m_f_Mo_takeOperand q0 q hq) (fun r1 h_r1 => ?_)
  refine po_b (m_f_Mo_e q0 x1 (1 : Int32) r1 h_r1) (fun r2 h_r2 => ?_)
  refine po_b (R := fun _ => True) (fun _ _ => trivial) (fun r3 _ => ?_)
  refine po_b (m_f_Mo_add q0 r2.1 r3 (0 : Int32) (0 : Int32) x1 r2.2 h_r2) (fun r4 h_r4 => ?_)
  refine po_b (m_f_Mo_setG q0 x1 r2.1 r4.2 h_r4) (fun r5 h_r5 => ?_)
  refine po_b (m_f_Mo_setE q0 x1 r4.1 r5 h_r5) (fun r6 h_r6 => ?_)
  exact po_s h_r6
set_option maxHeartbeats 4000000 in
set_option maxRecDepth 100000 in
theorem d_f_Mo_addAndChange (q0 : z_Sg) (x1 : Int32) (q : z_Sg) (hq : z_pn q = z_pn q0) (hd : ¬ z_gI q0 4 = -1) : z_po (f_Mo_addAndChange x1 q) (fun o : z_Sg => z_pn o = z_pn q0) := by
  unfold f_Mo_addAndChange
  refine po_b (d_f_Mo_takeOperand q0 q hq hd) (fun r1 h_r1 => ?_)
  refine po_b (d_f_Mo_e q0 x1 (1 : Int32) r1 h_r1 hd) (fun r2 h_r2 => ?_)
  refine po_b (R := fun _ => True) (fun _ _ => trivial) (fun r3 _ => ?_)
  refine po_b (d_f_Mo_add q0 r2.1 r3 (0 : Int32) (0 : Int32) x1 r2.2 h_r2) (fun r4 h_r4 => ?_)
  refine po_b (d_f_Mo_setG q0 x1 r2.1 r4.2 h_r4) (fun r5 h_r5 => ?_)
  refine po_b (d_f_Mo_setE q0 x1 r4.1 r5 h_r5) (fun r6 h_r6 => ?_)
  exact po_s h_r6
set_option maxHeartbeats 4000000 in
set_option maxRecDepth 100000 in
theorem m_kb_Mo_turnRound_22 (q0 : z_Sg) (ih22 : Int32 × Int32 × Int64 × Int32 × z_Sg → Option z_Sg) (x1 : Int32) (x2 : Int32) (x3 : Int64) (x5 : Int32) (q : z_Sg) (h_ih22 : ∀ a : Int32 × Int32 × Int64 × Int32 × z_Sg, z_pk a.2.2.2.2 = z_pk q0 → z_po (ih22 a) (fun o : z_Sg => z_pk o = z_pk q0)) (hq : z_pk q = z_pk q0) : z_po (kb_Mo_turnRound_22 ih22 x1 x2 x3 x5 q) (fun o : z_Sg => z_pk o = z_pk q0) := by
  unfold kb_Mo_turnRound_22
  refine po_i (fun _ => ?_) (fun _ => ?_)
  ·
    refine po_b (m_f_Mo_put8 q0 x1 x2 x3 q hq) (fun r4 h_r4 => ?_)
    exact po_s h_r4
  ·
    refine po_g (fun _ => ?_)
    refine po_n (fun n6 _ => ?_)
    refine po_n (fun n7 _ => ?_)
    exact h_ih22 _ hq
set_option maxHeartbeats 4000000 in
set_option maxRecDepth 100000 in
theorem d_kb_Mo_turnRound_22 (q0 : z_Sg) (ih22 : Int32 × Int32 × Int64 × Int32 × z_Sg → Option z_Sg) (x1 : Int32) (x2 : Int32) (x3 : Int64) (x5 : Int32) (q : z_Sg) (h_ih22 : ∀ a : Int32 × Int32 × Int64 × Int32 × z_Sg, z_pn a.2.2.2.2 = z_pn q0 → z_po (ih22 a) (fun o : z_Sg => z_pn o = z_pn q0)) (hq : z_pn q = z_pn q0) : z_po (kb_Mo_turnRound_22 ih22 x1 x2 x3 x5 q) (fun o : z_Sg => z_pn o = z_pn q0) := by
  unfold kb_Mo_turnRound_22
  refine po_i (fun _ => ?_) (fun _ => ?_)
  ·
    refine po_b (d_f_Mo_put8 q0 x1 x2 x3 q hq) (fun r4 h_r4 => ?_)
    exact po_s h_r4
  ·
    refine po_g (fun _ => ?_)
    refine po_n (fun n6 _ => ?_)
    refine po_n (fun n7 _ => ?_)
    exact h_ih22 _ hq
set_option maxHeartbeats 4000000 in
set_option maxRecDepth 100000 in
theorem m_k_Mo_turnRound_22 (q0 : z_Sg) (x1 : Int32) (x2 : Int32) (x3 : Int64) (x5 : Int32) (q : z_Sg) (hq : z_pk q = z_pk q0) : z_po (k_Mo_turnRound_22 x1 x2 x3 x5 q) (fun o : z_Sg => z_pk o = z_pk q0) := by
  unfold k_Mo_turnRound_22
  exact po_l (fun a : Int32 × Int32 × Int64 × Int32 × z_Sg => z_pk a.2.2.2.2 = z_pk q0) (fun ih22 a ha hih => m_kb_Mo_turnRound_22 q0 ih22 a.1 a.2.1 a.2.2.1 a.2.2.2.1 a.2.2.2.2  hih ha) _ _ hq
set_option maxHeartbeats 4000000 in
set_option maxRecDepth 100000 in
theorem d_k_Mo_turnRound_22 (q0 : z_Sg) (x1 : Int32) (x2 : Int32) (x3 : Int64) (x5 : Int32) (q : z_Sg) (hq : z_pn q = z_pn q0) : z_po (k_Mo_turnRound_22 x1 x2 x3 x5 q) (fun o : z_Sg => z_pn o = z_pn q0) := by
  unfold k_Mo_turnRound_22
  exact po_l (fun a : Int32 × Int32 × Int64 × Int32 × z_Sg => z_pn a.2.2.2.2 = z_pn q0) (fun ih22 a ha hih => d_kb_Mo_turnRound_22 q0 ih22 a.1 a.2.1 a.2.2.1 a.2.2.2.1 a.2.2.2.2  hih ha) _ _ hq
set_option maxHeartbeats 4000000 in
set_option maxRecDepth 100000 in
theorem m_f_Mo_turnRound (q0 : z_Sg) (x1 : Int32) (q : z_Sg) (hq : z_pk q = z_pk q0) : z_po (f_Mo_turnRound x1 q) (fun o : z_Sg => z_pk o = z_pk q0) := by
  unfold f_Mo_turnRound
  refine po_b (R := fun _ => True) (fun _ _ => trivial) (fun r1 _ => ?_)
  refine po_i (fun _ => ?_) (fun _ => ?_)
  ·
    refine po_b (m_f_Mo_refuse q0 (6 : Int32) q hq) (fun r8 h_r8 => ?_)
    exact po_s h_r8
  ·
    exact m_k_Mo_turnRound_22 q0 x1 r1 (0 : Int64) (0 : Int32) q hq
set_option maxHeartbeats 4000000 in
set_option maxRecDepth 100000 in
theorem d_f_Mo_turnRound (q0 : z_Sg) (x1 : Int32) (q : z_Sg) (hq : z_pn q = z_pn q0) (hd : ¬ z_gI q0 4 = -1) : z_po (f_Mo_turnRound x1 q) (fun o : z_Sg => z_pn o = z_pn q0) := by
  unfold f_Mo_turnRound
  refine po_b (R := fun _ => True) (fun _ _ => trivial) (fun r1 _ => ?_)
  refine po_i (fun _ => ?_) (fun _ => ?_)
  ·
    refine po_b (d_f_Mo_refuse q0 (6 : Int32) q hq hd) (fun r8 h_r8 => ?_)
    exact po_s h_r8
  ·
    exact d_k_Mo_turnRound_22 q0 x1 r1 (0 : Int64) (0 : Int32) q hq
set_option maxHeartbeats 4000000 in
set_option maxRecDepth 100000 in
theorem m_k_Mo_second_402 (q0 : z_Sg) (q : z_Sg) (hq : z_pk q = z_pk q0) : z_po (k_Mo_second_402 q) (fun o : z_Sg => z_pk o = z_pk q0) := by
  unfold k_Mo_second_402
  exact po_s hq
set_option maxHeartbeats 4000000 in
set_option maxRecDepth 100000 in
theorem d_k_Mo_second_402 (q0 : z_Sg) (q : z_Sg) (hq : z_pn q = z_pn q0) : z_po (k_Mo_second_402 q) (fun o : z_Sg => z_pn o = z_pn q0) := by
  unfold k_Mo_second_402
  exact po_s hq
set_option maxHeartbeats 4000000 in
set_option maxRecDepth 100000 in
theorem m_k_Mo_second_183 (q0 : z_Sg) (t1 : Int32) (q : z_Sg) (hq : z_pk q = z_pk q0) : z_po (k_Mo_second_183 t1 q) (fun o : z_Sg => z_pk o = z_pk q0) := by
  unfold k_Mo_second_183
  refine po_b (m_f_Mo_system q0 t1 q hq) (fun r7 h_r7 => ?_)
  exact m_k_Mo_second_402 q0 r7 h_r7
set_option maxHeartbeats 4000000 in
set_option maxRecDepth 100000 in
theorem d_k_Mo_second_183 (q0 : z_Sg) (t1 : Int32) (q : z_Sg) (hq : z_pn q = z_pn q0) (hd : ¬ z_gI q0 4 = -1) : z_po (k_Mo_second_183 t1 q) (fun o : z_Sg => z_pn o = z_pn q0) := by
  unfold k_Mo_second_183
  refine po_b (d_f_Mo_system q0 t1 q hq hd) (fun r7 h_r7 => ?_)
  exact d_k_Mo_second_402 q0 r7 h_r7
set_option maxHeartbeats 4000000 in
set_option maxRecDepth 100000 in
theorem m_k_Mo_second_172 (q0 : z_Sg) (x1 : Int32) (q : z_Sg) (hq : z_pk q = z_pk q0) : z_po (k_Mo_second_172 x1 q) (fun o : z_Sg => z_pk o = z_pk q0) := by
  unfold k_Mo_second_172
  refine po_i (fun _ => ?_) (fun _ => ?_)
  ·
    exact m_k_Mo_second_183 q0 (1 : Int32) q hq
  ·
    exact m_k_Mo_second_183 q0 (0 : Int32) q hq
set_option maxHeartbeats 4000000 in
set_option maxRecDepth 100000 in
theorem d_k_Mo_second_172 (q0 : z_Sg) (x1 : Int32) (q : z_Sg) (hq : z_pn q = z_pn q0) (hd : ¬ z_gI q0 4 = -1) : z_po (k_Mo_second_172 x1 q) (fun o : z_Sg => z_pn o = z_pn q0) := by
  unfold k_Mo_second_172
  refine po_i (fun _ => ?_) (fun _ => ?_)
  ·
    exact d_k_Mo_second_183 q0 (1 : Int32) q hq hd
  ·
    exact d_k_Mo_second_183 q0 (0 : Int32) q hq hd
set_option maxHeartbeats 4000000 in
set_option maxRecDepth 100000 in
theorem m_k_Mo_second_224 (q0 : z_Sg) (x1 : Int32) (q : z_Sg) (hq : z_pk q = z_pk q0) : z_po (k_Mo_second_224 x1 q) (fun o : z_Sg => z_pk o = z_pk q0) := by
  unfold k_Mo_second_224
  refine po_b (m_f_Mo_bit q0 x1 q hq) (fun r10 h_r10 => ?_)
  exact m_k_Mo_second_402 q0 r10 h_r10
set_option maxHeartbeats 4000000 in
set_option maxRecDepth 100000 in
theorem d_k_Mo_second_224 (q0 : z_Sg) (x1 : Int32) (q : z_Sg) (hq : z_pn q = z_pn q0) (hd : ¬ z_gI q0 4 = -1) : z_po (k_Mo_second_224 x1 q) (fun o : z_Sg => z_pn o = z_pn q0) := by
  unfold k_Mo_second_224
  refine po_b (d_f_Mo_bit q0 x1 q hq hd) (fun r10 h_r10 => ?_)
  exact d_k_Mo_second_402 q0 r10 h_r10
set_option maxHeartbeats 4000000 in
set_option maxRecDepth 100000 in
theorem m_k_Mo_second_261 (q0 : z_Sg) (x2 : Int32) (q : z_Sg) (hq : z_pk q = z_pk q0) : z_po (k_Mo_second_261 x2 q) (fun o : z_Sg => z_pk o = z_pk q0) := by
  unfold k_Mo_second_261
  refine po_b (m_f_Mo_compareAndChange q0 x2 q hq) (fun r17 h_r17 => ?_)
  exact m_k_Mo_second_402 q0 r17 h_r17
set_option maxHeartbeats 4000000 in
set_option maxRecDepth 100000 in
theorem d_k_Mo_second_261 (q0 : z_Sg) (x2 : Int32) (q : z_Sg) (hq : z_pn q = z_pn q0) (hd : ¬ z_gI q0 4 = -1) : z_po (k_Mo_second_261 x2 q) (fun o : z_Sg => z_pn o = z_pn q0) := by
  unfold k_Mo_second_261
  refine po_b (d_f_Mo_compareAndChange q0 x2 q hq hd) (fun r17 h_r17 => ?_)
  exact d_k_Mo_second_402 q0 r17 h_r17
set_option maxHeartbeats 4000000 in
set_option maxRecDepth 100000 in
theorem m_k_Mo_second_305 (q0 : z_Sg) (t1 : Int32) (t3 : Int32) (q : z_Sg) (hq : z_pk q = z_pk q0) : z_po (k_Mo_second_305 t1 t3 q) (fun o : z_Sg => z_pk o = z_pk q0) := by
  unfold k_Mo_second_305
  refine po_b (m_f_Mo_e q0 t3 (0 : Int32) q hq) (fun r23 h_r23 => ?_)
  refine po_b (m_f_Mo_setG q0 t1 r23.1 r23.2 h_r23) (fun r24 h_r24 => ?_)
  exact m_k_Mo_second_402 q0 r24 h_r24
set_option maxHeartbeats 4000000 in
set_option maxRecDepth 100000 in
theorem d_k_Mo_second_305 (q0 : z_Sg) (t1 : Int32) (t3 : Int32) (q : z_Sg) (hq : z_pn q = z_pn q0) (hd : ¬ z_gI q0 4 = -1) : z_po (k_Mo_second_305 t1 t3 q) (fun o : z_Sg => z_pn o = z_pn q0) := by
  unfold k_Mo_second_305
  refine po_b (d_f_Mo_e q0 t3 (0 : Int32) q hq hd) (fun r23 h_r23 => ?_)
  refine po_b (d_f_Mo_setG q0 t1 r23.1 r23.2 h_r23) (fun r24 h_r24 => ?_)
  exact d_k_Mo_second_402 q0 r24 h_r24
set_option maxHeartbeats 4000000 in
set_option maxRecDepth 100000 in
theorem m_k_Mo_second_283 (q0 : z_Sg) (x1 : Int32) (q : z_Sg) (hq : z_pk q = z_pk q0) : z_po (k_Mo_second_283 x1 q) (fun o : z_Sg => z_pk o = z_pk q0) := by
  unfold k_Mo_second_283
  refine po_b (m_f_Mo_takeOperand q0 q hq) (fun r20 h_r20 => ?_)
  refine po_b (R := fun _ => True) (fun _ _ => trivial) (fun r21 _ => ?_)
  refine po_i (fun _ => ?_) (fun _ => ?_)
  ·
    exact m_k_Mo_second_305 q0 r21 (1 : Int32) r20 h_r20
  ·
    exact m_k_Mo_second_305 q0 r21 (2 : Int32) r20 h_r20
set_option maxHeartbeats 4000000 in
set_option maxRecDepth 100000 in
theorem d_k_Mo_second_283 (q0 : z_Sg) (x1 : Int32) (q : z_Sg) (hq : z_pn q = z_pn q0) (hd : ¬ z_gI q0 4 = -1) : z_po (k_Mo_second_283 x1 q) (fun o : z_Sg => z_pn o = z_pn q0) := by
  unfold k_Mo_second_283
  refine po_b (d_f_Mo_takeOperand q0 q hq hd) (fun r20 h_r20 => ?_)
  refine po_b (R := fun _ => True) (fun _ _ => trivial) (fun r21 _ => ?_)
  refine po_i (fun _ => ?_) (fun _ => ?_)
  ·
    exact d_k_Mo_second_305 q0 r21 (1 : Int32) r20 h_r20 hd
  ·
    exact d_k_Mo_second_305 q0 r21 (2 : Int32) r20 h_r20 hd
set_option maxHeartbeats 4000000 in
set_option maxRecDepth 100000 in
theorem m_k_Mo_second_346 (q0 : z_Sg) (t1 : Int32) (t2 : Int32) (q : z_Sg) (hq : z_pk q = z_pk q0) : z_po (k_Mo_second_346 t1 t2 q) (fun o : z_Sg => z_pk o = z_pk q0) := by
  unfold k_Mo_second_346
  refine po_b (m_f_Mo_extend q0 t1 t2 q hq) (fun r29 h_r29 => ?_)
  exact m_k_Mo_second_402 q0 r29 h_r29
set_option maxHeartbeats 4000000 in
set_option maxRecDepth 100000 in
theorem d_k_Mo_second_346 (q0 : z_Sg) (t1 : Int32) (t2 : Int32) (q : z_Sg) (hq : z_pn q = z_pn q0) (hd : ¬ z_gI q0 4 = -1) : z_po (k_Mo_second_346 t1 t2 q) (fun o : z_Sg => z_pn o = z_pn q0) := by
  unfold k_Mo_second_346
  refine po_b (d_f_Mo_extend q0 t1 t2 q hq hd) (fun r29 h_r29 => ?_)
  exact d_k_Mo_second_402 q0 r29 h_r29
set_option maxHeartbeats 4000000 in
set_option maxRecDepth 100000 in
theorem m_k_Mo_second_329 (q0 : z_Sg) (x1 : Int32) (q : z_Sg) (hq : z_pk q = z_pk q0) : z_po (k_Mo_second_329 x1 q) (fun o : z_Sg => z_pk o = z_pk q0) := by
  unfold k_Mo_second_329
  refine po_b (R := fun _ => True) (fun _ _ => trivial) (fun r27 _ => ?_)
  refine po_i (fun _ => ?_) (fun _ => ?_)
  ·
    exact m_k_Mo_second_346 q0 r27 (1 : Int32) q hq
  ·
    exact m_k_Mo_second_346 q0 r27 (2 : Int32) q hq
set_option maxHeartbeats 4000000 in
set_option maxRecDepth 100000 in
theorem d_k_Mo_second_329 (q0 : z_Sg) (x1 : Int32) (q : z_Sg) (hq : z_pn q = z_pn q0) (hd : ¬ z_gI q0 4 = -1) : z_po (k_Mo_second_329 x1 q) (fun o : z_Sg => z_pn o = z_pn q0) := by
  unfold k_Mo_second_329
  refine po_b (R := fun _ => True) (fun _ _ => trivial) (fun r27 _ => ?_)
  refine po_i (fun _ => ?_) (fun _ => ?_)
  ·
    exact d_k_Mo_second_346 q0 r27 (1 : Int32) q hq hd
  ·
    exact d_k_Mo_second_346 q0 r27 (2 : Int32) q hq hd
set_option maxHeartbeats 4000000 in
set_option maxRecDepth 100000 in
theorem m_k_Mo_second_366 (q0 : z_Sg) (x1 : Int32) (q : z_Sg) (hq : z_pk q = z_pk q0) : z_po (k_Mo_second_366 x1 q) (fun o : z_Sg => z_pk o = z_pk q0) := by
  unfold k_Mo_second_366
  refine po_b (m_f_Mo_scan q0 x1 q hq) (fun r32 h_r32 => ?_)
  exact m_k_Mo_second_402 q0 r32 h_r32
set_option maxHeartbeats 4000000 in
set_option maxRecDepth 100000 in
theorem d_k_Mo_second_366 (q0 : z_Sg) (x1 : Int32) (q : z_Sg) (hq : z_pn q = z_pn q0) (hd : ¬ z_gI q0 4 = -1) : z_po (k_Mo_second_366 x1 q) (fun o : z_Sg => z_pn o = z_pn q0) := by
  unfold k_Mo_second_366
  refine po_b (d_f_Mo_scan q0 x1 q hq hd) (fun r32 h_r32 => ?_)
  exact d_k_Mo_second_402 q0 r32 h_r32
set_option maxHeartbeats 4000000 in
set_option maxRecDepth 100000 in
theorem m_k_Mo_second_388 (q0 : z_Sg) (x2 : Int32) (q : z_Sg) (hq : z_pk q = z_pk q0) : z_po (k_Mo_second_388 x2 q) (fun o : z_Sg => z_pk o = z_pk q0) := by
  unfold k_Mo_second_388
  refine po_b (m_f_Mo_addAndChange q0 x2 q hq) (fun r35 h_r35 => ?_)
  exact m_k_Mo_second_402 q0 r35 h_r35
set_option maxHeartbeats 4000000 in
set_option maxRecDepth 100000 in
theorem d_k_Mo_second_388 (q0 : z_Sg) (x2 : Int32) (q : z_Sg) (hq : z_pn q = z_pn q0) (hd : ¬ z_gI q0 4 = -1) : z_po (k_Mo_second_388 x2 q) (fun o : z_Sg => z_pn o = z_pn q0) := by
  unfold k_Mo_second_388
  refine po_b (d_f_Mo_addAndChange q0 x2 q hq hd) (fun r35 h_r35 => ?_)
  exact d_k_Mo_second_402 q0 r35 h_r35
set_option maxHeartbeats 4000000 in
set_option maxRecDepth 100000 in
theorem m_k_Mo_second_161 (q0 : z_Sg) (x1 : Int32) (x2 : Int32) (q : z_Sg) (hq : z_pk q = z_pk q0) : z_po (k_Mo_second_161 x1 x2 q) (fun o : z_Sg => z_pk o = z_pk q0) := by
  unfold k_Mo_second_161
  refine po_i (fun _ => ?_) (fun _ => ?_)
  ·
    exact m_k_Mo_second_172 q0 x1 q hq
  ·
    refine po_i (fun _ => ?_) (fun _ => ?_)
    ·
      exact m_k_Mo_second_172 q0 x1 q hq
    ·
      refine po_i (fun _ => ?_) (fun _ => ?_)
      ·
        exact m_k_Mo_second_224 q0 x1 q hq
      ·
        refine po_i (fun _ => ?_) (fun _ => ?_)
        ·
          exact m_k_Mo_second_224 q0 x1 q hq
        ·
          refine po_i (fun _ => ?_) (fun _ => ?_)
          ·
            exact m_k_Mo_second_224 q0 x1 q hq
          ·
            refine po_i (fun _ => ?_) (fun _ => ?_)
            ·
              exact m_k_Mo_second_224 q0 x1 q hq
            ·
              refine po_i (fun _ => ?_) (fun _ => ?_)
              ·
                exact m_k_Mo_second_224 q0 x1 q hq
              ·
                refine po_i (fun _ => ?_) (fun _ => ?_)
                ·
                  refine po_b (m_f_Mo_product q0 x1 q hq) (fun r38 h_r38 => ?_)
                  exact m_k_Mo_second_402 q0 r38 h_r38
                ·
                  refine po_i (fun _ => ?_) (fun _ => ?_)
                  ·
                    exact m_k_Mo_second_261 q0 x2 q hq
                  ·
                    refine po_i (fun _ => ?_) (fun _ => ?_)
                    ·
                      exact m_k_Mo_second_261 q0 x2 q hq
                    ·
                      refine po_i (fun _ => ?_) (fun _ => ?_)
                      ·
                        exact m_k_Mo_second_283 q0 x1 q hq
                      ·
                        refine po_i (fun _ => ?_) (fun _ => ?_)
                        ·
                          exact m_k_Mo_second_283 q0 x1 q hq
                        ·
                          refine po_i (fun _ => ?_) (fun _ => ?_)
                          ·
                            exact m_k_Mo_second_329 q0 x1 q hq
                          ·
                            refine po_i (fun _ => ?_) (fun _ => ?_)
                            ·
                              exact m_k_Mo_second_329 q0 x1 q hq
                            ·
                              refine po_i (fun _ => ?_) (fun _ => ?_)
                              ·
                                exact m_k_Mo_second_366 q0 x1 q hq
                              ·
                                refine po_i (fun _ => ?_) (fun _ => ?_)
                                ·
                                  exact m_k_Mo_second_366 q0 x1 q hq
                                ·
                                  refine po_i (fun _ => ?_) (fun _ => ?_)
                                  ·
                                    exact m_k_Mo_second_388 q0 x2 q hq
                                  ·
                                    refine po_i (fun _ => ?_) (fun _ => ?_)
                                    ·
                                      exact m_k_Mo_second_388 q0 x2 q hq
                                    ·
                                      refine po_b (m_f_Mo_refuse q0 (6 : Int32) q hq) (fun r37 h_r37 => ?_)
                                      exact m_k_Mo_second_402 q0 r37 h_r37
set_option maxHeartbeats 4000000 in
set_option maxRecDepth 100000 in
theorem d_k_Mo_second_161 (q0 : z_Sg) (x1 : Int32) (x2 : Int32) (q : z_Sg) (hq : z_pn q = z_pn q0) (hd : ¬ z_gI q0 4 = -1) : z_po (k_Mo_second_161 x1 x2 q) (fun o : z_Sg => z_pn o = z_pn q0) := by
  unfold k_Mo_second_161
  refine po_i (fun _ => ?_) (fun _ => ?_)
  ·
    exact d_k_Mo_second_172 q0 x1 q hq hd
  ·
    refine po_i (fun _ => ?_) (fun _ => ?_)
    ·
      exact d_k_Mo_second_172 q0 x1 q hq hd
    ·
      refine po_i (fun _ => ?_) (fun _ => ?_)
      ·
        exact d_k_Mo_second_224 q0 x1 q hq hd
      ·
        refine po_i (fun _ => ?_) (fun _ => ?_)
        ·
          exact d_k_Mo_second_224 q0 x1 q hq hd
        ·
          refine po_i (fun _ => ?_) (fun _ => ?_)
          ·
            exact d_k_Mo_second_224 q0 x1 q hq hd
          ·
            refine po_i (fun _ => ?_) (fun _ => ?_)
            ·
              exact d_k_Mo_second_224 q0 x1 q hq hd
            ·
              refine po_i (fun _ => ?_) (fun _ => ?_)
              ·
                exact d_k_Mo_second_224 q0 x1 q hq hd
              ·
                refine po_i (fun _ => ?_) (fun _ => ?_)
                ·
                  refine po_b (d_f_Mo_product q0 x1 q hq hd) (fun r38 h_r38 => ?_)
                  exact d_k_Mo_second_402 q0 r38 h_r38
                ·
                  refine po_i (fun _ => ?_) (fun _ => ?_)
                  ·
                    exact d_k_Mo_second_261 q0 x2 q hq hd
                  ·
                    refine po_i (fun _ => ?_) (fun _ => ?_)
                    ·
                      exact d_k_Mo_second_261 q0 x2 q hq hd
                    ·
                      refine po_i (fun _ => ?_) (fun _ => ?_)
                      ·
                        exact d_k_Mo_second_283 q0 x1 q hq hd
                      ·
                        refine po_i (fun _ => ?_) (fun _ => ?_)
                        ·
                          exact d_k_Mo_second_283 q0 x1 q hq hd
                        ·
                          refine po_i (fun _ => ?_) (fun _ => ?_)
                          ·
                            exact d_k_Mo_second_329 q0 x1 q hq hd
                          ·
                            refine po_i (fun _ => ?_) (fun _ => ?_)
                            ·
                              exact d_k_Mo_second_329 q0 x1 q hq hd
                            ·
                              refine po_i (fun _ => ?_) (fun _ => ?_)
                              ·
                                exact d_k_Mo_second_366 q0 x1 q hq hd
                              ·
                                refine po_i (fun _ => ?_) (fun _ => ?_)
                                ·
                                  exact d_k_Mo_second_366 q0 x1 q hq hd
                                ·
                                  refine po_i (fun _ => ?_) (fun _ => ?_)
                                  ·
                                    exact d_k_Mo_second_388 q0 x2 q hq hd
                                  ·
                                    refine po_i (fun _ => ?_) (fun _ => ?_)
                                    ·
                                      exact d_k_Mo_second_388 q0 x2 q hq hd
                                    ·
                                      refine po_b (d_f_Mo_refuse q0 (6 : Int32) q hq hd) (fun r37 h_r37 => ?_)
                                      exact d_k_Mo_second_402 q0 r37 h_r37
set_option maxHeartbeats 4000000 in
set_option maxRecDepth 100000 in
theorem m_k_Mo_second_130 (q0 : z_Sg) (x1 : Int32) (x2 : Int32) (q : z_Sg) (hq : z_pk q = z_pk q0) : z_po (k_Mo_second_130 x1 x2 q) (fun o : z_Sg => z_pk o = z_pk q0) := by
  unfold k_Mo_second_130
  refine po_i (fun _ => ?_) (fun _ => ?_)
  ·
    exact m_k_Mo_second_161 q0 x1 x2 q hq
  ·
    refine po_i (fun _ => ?_) (fun _ => ?_)
    ·
      exact m_k_Mo_second_161 q0 x1 x2 q hq
    ·
      refine po_b (R := fun _ => True) (fun _ _ => trivial) (fun r40 _ => ?_)
      refine po_b (m_f_Mo_turnRound q0 ((x1 - ((x1 / (8 : Int32)) * (8 : Int32))) + r40) q hq) (fun r41 h_r41 => ?_)
      exact m_k_Mo_second_402 q0 r41 h_r41
set_option maxHeartbeats 4000000 in
set_option maxRecDepth 100000 in
theorem d_k_Mo_second_130 (q0 : z_Sg) (x1 : Int32) (x2 : Int32) (q : z_Sg) (hq : z_pn q = z_pn q0) (hd : ¬ z_gI q0 4 = -1) : z_po (k_Mo_second_130 x1 x2 q) (fun o : z_Sg => z_pn o = z_pn q0) := by
  unfold k_Mo_second_130
  refine po_i (fun _ => ?_) (fun _ => ?_)
  ·
    exact d_k_Mo_second_161 q0 x1 x2 q hq hd
  ·
    refine po_i (fun _ => ?_) (fun _ => ?_)
    ·
      exact d_k_Mo_second_161 q0 x1 x2 q hq hd
    ·
      refine po_b (R := fun _ => True) (fun _ _ => trivial) (fun r40 _ => ?_)
      refine po_b (d_f_Mo_turnRound q0 ((x1 - ((x1 / (8 : Int32)) * (8 : Int32))) + r40) q hq hd) (fun r41 h_r41 => ?_)
      exact d_k_Mo_second_402 q0 r41 h_r41
set_option maxHeartbeats 4000000 in
set_option maxRecDepth 100000 in
theorem m_k_Mo_second_124 (q0 : z_Sg) (t1 : Int32) (t2 : Int64) (q : z_Sg) (hq : z_pk q = z_pk q0) : z_po (k_Mo_second_124 t1 t2 q) (fun o : z_Sg => z_pk o = z_pk q0) := by
  unfold k_Mo_second_124
  refine po_b (m_f_Mo_setE q0 t1 t2 q hq) (fun r47 h_r47 => ?_)
  exact m_k_Mo_second_402 q0 r47 h_r47
set_option maxHeartbeats 4000000 in
set_option maxRecDepth 100000 in
theorem d_k_Mo_second_124 (q0 : z_Sg) (t1 : Int32) (t2 : Int64) (q : z_Sg) (hq : z_pn q = z_pn q0) : z_po (k_Mo_second_124 t1 t2 q) (fun o : z_Sg => z_pn o = z_pn q0) := by
  unfold k_Mo_second_124
  refine po_b (d_f_Mo_setE q0 t1 t2 q hq) (fun r47 h_r47 => ?_)
  exact d_k_Mo_second_402 q0 r47 h_r47
set_option maxHeartbeats 4000000 in
set_option maxRecDepth 100000 in
theorem m_k_Mo_second_84 (q0 : z_Sg) (x1 : Int32) (x2 : Int32) (q : z_Sg) (hq : z_pk q = z_pk q0) : z_po (k_Mo_second_84 x1 x2 q) (fun o : z_Sg => z_pk o = z_pk q0) := by
  unfold k_Mo_second_84
  refine po_i (fun _ => ?_) (fun _ => ?_)
  ·
    exact m_k_Mo_second_130 q0 x1 x2 q hq
  ·
    refine po_i (fun _ => ?_) (fun _ => ?_)
    ·
      exact m_k_Mo_second_130 q0 x1 x2 q hq
    ·
      refine po_b (m_f_Mo_takeOperand q0 q hq) (fun r43 h_r43 => ?_)
      refine po_b (m_f_Mo_e q0 (1 : Int32) (1 : Int32) r43 h_r43) (fun r44 h_r44 => ?_)
      refine po_b (R := fun _ => True) (fun _ _ => trivial) (fun r45 _ => ?_)
      refine po_i (fun _ => ?_) (fun _ => ?_)
      ·
        exact m_k_Mo_second_124 q0 (1 : Int32) (0 : Int64) r44.2 h_r44
      ·
        exact m_k_Mo_second_124 q0 (1 : Int32) (1 : Int64) r44.2 h_r44
set_option maxHeartbeats 4000000 in
set_option maxRecDepth 100000 in
theorem d_k_Mo_second_84 (q0 : z_Sg) (x1 : Int32) (x2 : Int32) (q : z_Sg) (hq : z_pn q = z_pn q0) (hd : ¬ z_gI q0 4 = -1) : z_po (k_Mo_second_84 x1 x2 q) (fun o : z_Sg => z_pn o = z_pn q0) := by
  unfold k_Mo_second_84
  refine po_i (fun _ => ?_) (fun _ => ?_)
  ·
    exact d_k_Mo_second_130 q0 x1 x2 q hq hd
  ·
    refine po_i (fun _ => ?_) (fun _ => ?_)
    ·
      exact d_k_Mo_second_130 q0 x1 x2 q hq hd
    ·
      refine po_b (d_f_Mo_takeOperand q0 q hq hd) (fun r43 h_r43 => ?_)
      refine po_b (d_f_Mo_e q0 (1 : Int32) (1 : Int32) r43 h_r43 hd) (fun r44 h_r44 => ?_)
      refine po_b (R := fun _ => True) (fun _ _ => trivial) (fun r45 _ => ?_)
      refine po_i (fun _ => ?_) (fun _ => ?_)
      ·
        exact d_k_Mo_second_124 q0 (1 : Int32) (0 : Int64) r44.2 h_r44
      ·
        exact d_k_Mo_second_124 q0 (1 : Int32) (1 : Int64) r44.2 h_r44
set_option maxHeartbeats 4000000 in
set_option maxRecDepth 100000 in
theorem m_k_Mo_second_57 (q0 : z_Sg) (x1 : Int32) (x2 : Int32) (q : z_Sg) (hq : z_pk q = z_pk q0) : z_po (k_Mo_second_57 x1 x2 q) (fun o : z_Sg => z_pk o = z_pk q0) := by
  unfold k_Mo_second_57
  refine po_i (fun _ => ?_) (fun _ => ?_)
  ·
    exact m_k_Mo_second_84 q0 x1 x2 q hq
  ·
    refine po_i (fun _ => ?_) (fun _ => ?_)
    ·
      exact m_k_Mo_second_84 q0 x1 x2 q hq
    ·
      refine po_b (R := fun _ => True) (fun _ _ => trivial) (fun r49 _ => ?_)
      refine po_b (m_f_Mo_branch q0 r49 (4 : Int32) q hq) (fun r50 h_r50 => ?_)
      exact m_k_Mo_second_402 q0 r50 h_r50
set_option maxHeartbeats 4000000 in
set_option maxRecDepth 100000 in
theorem d_k_Mo_second_57 (q0 : z_Sg) (x1 : Int32) (x2 : Int32) (q : z_Sg) (hq : z_pn q = z_pn q0) (hd : ¬ z_gI q0 4 = -1) : z_po (k_Mo_second_57 x1 x2 q) (fun o : z_Sg => z_pn o = z_pn q0) := by
  unfold k_Mo_second_57
  refine po_i (fun _ => ?_) (fun _ => ?_)
  ·
    exact d_k_Mo_second_84 q0 x1 x2 q hq hd
  ·
    refine po_i (fun _ => ?_) (fun _ => ?_)
    ·
      exact d_k_Mo_second_84 q0 x1 x2 q hq hd
    ·
      refine po_b (R := fun _ => True) (fun _ _ => trivial) (fun r49 _ => ?_)
      refine po_b (d_f_Mo_branch q0 r49 (4 : Int32) q hq hd) (fun r50 h_r50 => ?_)
      exact d_k_Mo_second_402 q0 r50 h_r50
set_option maxHeartbeats 4000000 in
set_option maxRecDepth 100000 in
theorem m_k_Mo_second_51 (q0 : z_Sg) (t1 : Int32) (t2 : Int64) (q : z_Sg) (hq : z_pk q = z_pk q0) : z_po (k_Mo_second_51 t1 t2 q) (fun o : z_Sg => z_pk o = z_pk q0) := by
  unfold k_Mo_second_51
  refine po_b (m_f_Mo_setG q0 t1 t2 q hq) (fun r60 h_r60 => ?_)
  exact m_k_Mo_second_402 q0 r60 h_r60
set_option maxHeartbeats 4000000 in
set_option maxRecDepth 100000 in
theorem d_k_Mo_second_51 (q0 : z_Sg) (t1 : Int32) (t2 : Int64) (q : z_Sg) (hq : z_pn q = z_pn q0) : z_po (k_Mo_second_51 t1 t2 q) (fun o : z_Sg => z_pn o = z_pn q0) := by
  unfold k_Mo_second_51
  refine po_b (d_f_Mo_setG q0 t1 t2 q hq) (fun r60 h_r60 => ?_)
  exact d_k_Mo_second_402 q0 r60 h_r60
set_option maxHeartbeats 4000000 in
set_option maxRecDepth 100000 in
theorem m_f_Mo_second (q0 : z_Sg) (x1 : Int32) (x2 : Int32) (q : z_Sg) (hq : z_pk q = z_pk q0) : z_po (f_Mo_second x1 x2 q) (fun o : z_Sg => z_pk o = z_pk q0) := by
  unfold f_Mo_second
  refine po_i (fun _ => ?_) (fun _ => ?_)
  ·
    exact m_k_Mo_second_57 q0 x1 x2 q hq
  ·
    refine po_i (fun _ => ?_) (fun _ => ?_)
    ·
      exact m_k_Mo_second_57 q0 x1 x2 q hq
    ·
      refine po_b (m_f_Mo_takeOperand q0 q hq) (fun r52 h_r52 => ?_)
      refine po_b (R := fun _ => True) (fun _ _ => trivial) (fun r53 _ => ?_)
      refine po_b (m_f_Mo_e q0 r53 (0 : Int32) r52 h_r52) (fun r54 h_r54 => ?_)
      refine po_b (R := fun _ => True) (fun _ _ => trivial) (fun r55 _ => ?_)
      refine po_b (R := fun _ => True) (fun _ _ => trivial) (fun r56 _ => ?_)
      refine po_i (fun _ => ?_) (fun _ => ?_)
      ·
        refine po_b (R := fun _ => True) (fun _ _ => trivial) (fun r58 _ => ?_)
        refine po_b (R := fun _ => True) (fun _ _ => trivial) (fun r59 _ => ?_)
        exact m_k_Mo_second_51 q0 r55 r59 r54.2 h_r54
      ·
        exact m_k_Mo_second_51 q0 r55 r54.1 r54.2 h_r54
set_option maxHeartbeats 4000000 in
set_option maxRecDepth 100000 in
theorem d_f_Mo_second (q0 : z_Sg) (x1 : Int32) (x2 : Int32) (q : z_Sg) (hq : z_pn q = z_pn q0) (hd : ¬ z_gI q0 4 = -1) : z_po (f_Mo_second x1 x2 q) (fun o : z_Sg => z_pn o = z_pn q0) := by
  unfold f_Mo_second
  refine po_i (fun _ => ?_) (fun _ => ?_)
  ·
    exact d_k_Mo_second_57 q0 x1 x2 q hq hd
  ·
    refine po_i (fun _ => ?_) (fun _ => ?_)
    ·
      exact d_k_Mo_second_57 q0 x1 x2 q hq hd
    ·
      refine po_b (d_f_Mo_takeOperand q0 q hq hd) (fun r52 h_r52 => ?_)
      refine po_b (R := fun _ => True) (fun _ _ => trivial) (fun r53 _ => ?_)
      refine po_b (d_f_Mo_e q0 r53 (0 : Int32) r52 h_r52 hd) (fun r54 h_r54 => ?_)
      refine po_b (R := fun _ => True) (fun _ _ => trivial) (fun r55 _ => ?_)
      refine po_b (R := fun _ => True) (fun _ _ => trivial) (fun r56 _ => ?_)
      refine po_i (fun _ => ?_) (fun _ => ?_)
      ·
        refine po_b (R := fun _ => True) (fun _ _ => trivial) (fun r58 _ => ?_)
        refine po_b (R := fun _ => True) (fun _ _ => trivial) (fun r59 _ => ?_)
        exact d_k_Mo_second_51 q0 r55 r59 r54.2 h_r54
      ·
        exact d_k_Mo_second_51 q0 r55 r54.1 r54.2 h_r54
