set_option maxHeartbeats 4000000 in
set_option maxRecDepth 100000 in
def e_f_Mo_moveNumber (x1 : Int32) (q : z_Sg) : Option (Sum z_Dd z_Sg) :=
  (z_eb (e_f_Mo_takeMod q) (fun r1 => (if (z_gI r1 8) = 0 then (e_k_Mo_moveNumber_17 x1 r1) else (z_eb (e_f_Mo_refuse (6 : Int32) r1) (fun r8 => (e_k_Mo_moveNumber_17 x1 r8))))))
theorem x_f_Mo_moveNumber (x1 : Int32) (q : z_Sg) (hq : z_gI q 4 = -1) : z_po (f_Mo_moveNumber x1 q) (z_X (fun o : z_Sg => o) (e_f_Mo_moveNumber x1 q)) := by
  unfold f_Mo_moveNumber e_f_Mo_moveNumber
  refine X_b (x_f_Mo_takeMod q hq) (fun r1 h_r1 => ?_) (fun r1 h_r1 => ?_)
  rotate_left
  ·
    refine po_i (fun _ => ?_) (fun _ => ?_)
    ·
      exact d_k_Mo_moveNumber_17 r1 x1 r1 rfl h_r1
    ·
      refine po_b (d_f_Mo_refuse r1 (6 : Int32) r1 rfl h_r1) (fun r8 h_r8 => ?_)
      exact d_k_Mo_moveNumber_17 r1 x1 r8 h_r8 h_r1
  refine X_i (fun _ => ?_) (fun _ => ?_)
  ·
    exact x_k_Mo_moveNumber_17 x1 r1 h_r1
  ·
    refine X_b (x_f_Mo_refuse (6 : Int32) r1 h_r1) (fun r8 h_r8 => ?_) (fun r8 h_r8 => ?_)
    rotate_left
    ·
      exact d_k_Mo_moveNumber_17 r8 x1 r8 rfl h_r8
    exact x_k_Mo_moveNumber_17 x1 r8 h_r8
set_option maxHeartbeats 4000000 in
set_option maxRecDepth 100000 in
def e_k_Mo_far_52 (x1 : Int32) (x4 : Int64) (q : z_Sg) : Option (Sum z_Dd z_Sg) :=
  (if x1 = (232 : Int32) then (z_eb (e_f_Mo_push x4 (8 : Int32) q) (fun r7 => ((k_Mo_far_67 r7).bind (fun o => some (.inr o))))) else ((k_Mo_far_67 q).bind (fun o => some (.inr o))))
theorem x_k_Mo_far_52 (x1 : Int32) (x4 : Int64) (q : z_Sg) (hq : z_gI q 4 = -1) : z_po (k_Mo_far_52 x1 x4 q) (z_X (fun o : z_Sg => o) (e_k_Mo_far_52 x1 x4 q)) := by
  unfold k_Mo_far_52 e_k_Mo_far_52
  refine X_i (fun _ => ?_) (fun _ => ?_)
  ·
    refine X_b (x_f_Mo_push x4 (8 : Int32) q hq) (fun r7 h_r7 => ?_) (fun r7 h_r7 => ?_)
    rotate_left
    ·
      exact d_k_Mo_far_67 r7 r7 rfl
    exact X_t (d_k_Mo_far_67 r7 r7 rfl) h_r7
  ·
    exact X_t (d_k_Mo_far_67 q q rfl) hq
set_option maxHeartbeats 4000000 in
set_option maxRecDepth 100000 in
def e_k_Mo_far_26 (x1 : Int32) (t1 : Int32) (q : z_Sg) : Option (Sum z_Dd z_Sg) :=
  (z_eb (e_f_Mo_number t1 q) (fun r3 => (z_nm (z_gL r3.2 7) (fun n4 => (z_eb (e_f_Mo_jump (n4 + r3.1) r3.2) (fun r8 => (e_k_Mo_far_52 x1 n4 r8)))))))
theorem x_k_Mo_far_26 (x1 : Int32) (t1 : Int32) (q : z_Sg) (hq : z_gI q 4 = -1) : z_po (k_Mo_far_26 x1 t1 q) (z_X (fun o : z_Sg => o) (e_k_Mo_far_26 x1 t1 q)) := by
  unfold k_Mo_far_26 e_k_Mo_far_26
  refine X_b (x_f_Mo_number t1 q hq) (fun r3 h_r3 => ?_) (fun r3 h_r3 => ?_)
  rotate_left
  ·
    refine po_n (fun n4 _ => ?_)
    refine po_f (pn_d rfl h_r3) ?_
    exact d_k_Mo_far_52 r3.2 x1 n4 r3.2 rfl h_r3
  refine X_n (fun n4 _ => ?_)
  refine po_t h_r3 ?_
  refine X_b (x_f_Mo_jump (n4 + r3.1) r3.2 h_r3) (fun r8 h_r8 => ?_) (fun r8 h_r8 => ?_)
  rotate_left
  ·
    exact d_k_Mo_far_52 r8 x1 n4 r8 rfl h_r8
  exact x_k_Mo_far_52 x1 n4 r8 h_r8
set_option maxHeartbeats 4000000 in
set_option maxRecDepth 100000 in
def e_k_Mo_far_13 (x1 : Int32) (q : z_Sg) : Option (Sum z_Dd z_Sg) :=
  (if x1 = (235 : Int32) then (e_k_Mo_far_26 x1 (1 : Int32) q) else (e_k_Mo_far_26 x1 (4 : Int32) q))
theorem x_k_Mo_far_13 (x1 : Int32) (q : z_Sg) (hq : z_gI q 4 = -1) : z_po (k_Mo_far_13 x1 q) (z_X (fun o : z_Sg => o) (e_k_Mo_far_13 x1 q)) := by
  unfold k_Mo_far_13 e_k_Mo_far_13
  refine X_i (fun _ => ?_) (fun _ => ?_)
  ·
    exact x_k_Mo_far_26 x1 (1 : Int32) q hq
  ·
    exact x_k_Mo_far_26 x1 (4 : Int32) q hq
set_option maxHeartbeats 4000000 in
set_option maxRecDepth 100000 in
def e_f_Mo_far (x1 : Int32) (q : z_Sg) : Option (Sum z_Dd z_Sg) :=
  (if (z_gI q 16) = 0 then (e_k_Mo_far_13 x1 q) else (z_eb (e_f_Mo_refuse (6 : Int32) q) (fun r9 => (e_k_Mo_far_13 x1 r9))))
theorem x_f_Mo_far (x1 : Int32) (q : z_Sg) (hq : z_gI q 4 = -1) : z_po (f_Mo_far x1 q) (z_X (fun o : z_Sg => o) (e_f_Mo_far x1 q)) := by
  unfold f_Mo_far e_f_Mo_far
  refine X_i (fun _ => ?_) (fun _ => ?_)
  ·
    exact x_k_Mo_far_13 x1 q hq
  ·
    refine X_b (x_f_Mo_refuse (6 : Int32) q hq) (fun r9 h_r9 => ?_) (fun r9 h_r9 => ?_)
    rotate_left
    ·
      exact d_k_Mo_far_13 r9 x1 r9 rfl h_r9
    exact x_k_Mo_far_13 x1 r9 h_r9
set_option maxHeartbeats 4000000 in
set_option maxRecDepth 100000 in
def e_k_Mo_leaveFrame_13 (q : z_Sg) : Option (Sum z_Dd z_Sg) :=
  (if (z_bad (5 : Int32) 16) then none else (if (z_bad (4 : Int32) 16) then none else (z_nm (z_sM q 0 (4 : Int32).toNatClampNeg (z_gM q 0 (5 : Int32).toNatClampNeg)) (fun q4 => (z_eb (e_f_Mo_pop (8 : Int32) q4) (fun r5 => (if (z_bad (5 : Int32) 16) then none else (z_nm (z_sM r5.2 0 (5 : Int32).toNatClampNeg r5.1) (fun q7 => (some (.inr q7)))))))))))
theorem x_k_Mo_leaveFrame_13 (q : z_Sg) (hq : z_gI q 4 = -1) : z_po (k_Mo_leaveFrame_13 q) (z_X (fun o : z_Sg => o) (e_k_Mo_leaveFrame_13 q)) := by
  unfold k_Mo_leaveFrame_13 e_k_Mo_leaveFrame_13
  refine X_g (fun _ => ?_)
  refine X_g (fun _ => ?_)
  refine X_n (fun q4 e_q4 => ?_)
  have h_q4 : z_gI q4 4 = -1 := by rw [e_q4]; exact hq
  refine X_b (x_f_Mo_pop (8 : Int32) q4 h_q4) (fun r5 h_r5 => ?_) (fun r5 h_r5 => ?_)
  rotate_left
  ·
    refine po_g (fun _ => ?_)
    refine po_n (fun q7 e_q7 => ?_)
    have h_q7 : z_pn q7 = z_pn r5.2 := by rw [e_q7]; exact rfl
    exact po_s h_q7
  refine X_g (fun _ => ?_)
  refine X_n (fun q7 e_q7 => ?_)
  have h_q7 : z_gI q7 4 = -1 := by rw [e_q7]; exact h_r5
  exact po_s (X_s h_q7)
set_option maxHeartbeats 4000000 in
set_option maxRecDepth 100000 in
def e_f_Mo_leaveFrame (q : z_Sg) : Option (Sum z_Dd z_Sg) :=
  (if (z_gI q 16) = 0 then (e_k_Mo_leaveFrame_13 q) else (z_eb (e_f_Mo_refuse (6 : Int32) q) (fun r8 => (e_k_Mo_leaveFrame_13 r8))))
theorem x_f_Mo_leaveFrame (q : z_Sg) (hq : z_gI q 4 = -1) : z_po (f_Mo_leaveFrame q) (z_X (fun o : z_Sg => o) (e_f_Mo_leaveFrame q)) := by
  unfold f_Mo_leaveFrame e_f_Mo_leaveFrame
  refine X_i (fun _ => ?_) (fun _ => ?_)
  ·
    exact x_k_Mo_leaveFrame_13 q hq
  ·
    refine X_b (x_f_Mo_refuse (6 : Int32) q hq) (fun r8 h_r8 => ?_) (fun r8 h_r8 => ?_)
    rotate_left
    ·
      exact d_k_Mo_leaveFrame_13 r8 r8 rfl h_r8
    exact x_k_Mo_leaveFrame_13 r8 h_r8
set_option maxHeartbeats 4000000 in
set_option maxRecDepth 100000 in
def e_k_Mo_popOperand_17 (q : z_Sg) : Option (Sum z_Dd z_Sg) :=
  (z_eb (e_f_Mo_takePlace q) (fun r3 => (z_nm (z_sL r3 7 ((z_gL r3 0) + (z_gI r3 6).toInt64)) (fun q4 => ((f_Mo_stackSize q4).bind (fun r5 => (z_eb (e_f_Mo_pop r5 q4) (fun r6 => ((f_Mo_stackSize r6.2).bind (fun r7 => (z_eb (e_f_Mo_e r7 (1 : Int32) r6.2) (fun r8 => ((f_Mo_stackSize r8.2).bind (fun r9 => ((f_Mo_setE r9 r6.1 r8.2).bind (fun r10 => (some (.inr r10))))))))))))))))))
theorem x_k_Mo_popOperand_17 (q : z_Sg) (hq : z_gI q 4 = -1) : z_po (k_Mo_popOperand_17 q) (z_X (fun o : z_Sg => o) (e_k_Mo_popOperand_17 q)) := by
  unfold k_Mo_popOperand_17 e_k_Mo_popOperand_17
  refine X_b (x_f_Mo_takePlace q hq) (fun r3 h_r3 => ?_) (fun r3 h_r3 => ?_)
  rotate_left
  ·
    refine po_n (fun q4 e_q4 => ?_)
    have h_q4 : z_pn q4 = z_pn r3 := by rw [e_q4]; exact rfl
    refine po_b (R := fun _ => True) (fun _ _ => trivial) (fun r5 _ => ?_)
    refine po_b (d_f_Mo_pop r3 r5 q4 h_q4 h_r3) (fun r6 h_r6 => ?_)
    refine po_b (R := fun _ => True) (fun _ _ => trivial) (fun r7 _ => ?_)
    refine po_b (d_f_Mo_e r3 r7 (1 : Int32) r6.2 h_r6 h_r3) (fun r8 h_r8 => ?_)
    refine po_b (R := fun _ => True) (fun _ _ => trivial) (fun r9 _ => ?_)
    refine po_b (d_f_Mo_setE r3 r9 r6.1 r8.2 h_r8) (fun r10 h_r10 => ?_)
    exact po_s h_r10
  refine X_n (fun q4 e_q4 => ?_)
  have h_q4 : z_gI q4 4 = -1 := by rw [e_q4]; exact h_r3
  refine X_p (R := fun _ => True) (fun _ _ => trivial) (fun r5 _ => ?_)
  refine X_b (x_f_Mo_pop r5 q4 h_q4) (fun r6 h_r6 => ?_) (fun r6 h_r6 => ?_)
  rotate_left
  ·
    refine po_b (R := fun _ => True) (fun _ _ => trivial) (fun r7 _ => ?_)
    refine po_b (d_f_Mo_e r6.2 r7 (1 : Int32) r6.2 rfl h_r6) (fun r8 h_r8 => ?_)
    refine po_b (R := fun _ => True) (fun _ _ => trivial) (fun r9 _ => ?_)
    refine po_b (d_f_Mo_setE r6.2 r9 r6.1 r8.2 h_r8) (fun r10 h_r10 => ?_)
    exact po_s h_r10
  refine X_p (R := fun _ => True) (fun _ _ => trivial) (fun r7 _ => ?_)
  refine X_b (x_f_Mo_e r7 (1 : Int32) r6.2 h_r6) (fun r8 h_r8 => ?_) (fun r8 h_r8 => ?_)
  rotate_left
  ·
    refine po_b (R := fun _ => True) (fun _ _ => trivial) (fun r9 _ => ?_)
    refine po_b (d_f_Mo_setE r8.2 r9 r6.1 r8.2 rfl) (fun r10 h_r10 => ?_)
    exact po_s h_r10
  refine X_p (R := fun _ => True) (fun _ _ => trivial) (fun r9 _ => ?_)
  refine X_p (d_f_Mo_setE r8.2 r9 r6.1 r8.2 rfl) (fun r10 k_r10 => ?_)
  have h_r10 : z_gI r10 4 = -1 := pn_a k_r10 h_r8
  exact po_s (X_s h_r10)
set_option maxHeartbeats 4000000 in
set_option maxRecDepth 100000 in
def e_f_Mo_popOperand (q : z_Sg) : Option (Sum z_Dd z_Sg) :=
  (z_eb (e_f_Mo_takeMod q) (fun r1 => (if (z_gI r1 8) = 0 then (e_k_Mo_popOperand_17 r1) else (z_eb (e_f_Mo_refuse (6 : Int32) r1) (fun r11 => (e_k_Mo_popOperand_17 r11))))))
theorem x_f_Mo_popOperand (q : z_Sg) (hq : z_gI q 4 = -1) : z_po (f_Mo_popOperand q) (z_X (fun o : z_Sg => o) (e_f_Mo_popOperand q)) := by
  unfold f_Mo_popOperand e_f_Mo_popOperand
  refine X_b (x_f_Mo_takeMod q hq) (fun r1 h_r1 => ?_) (fun r1 h_r1 => ?_)
  rotate_left
  ·
    refine po_i (fun _ => ?_) (fun _ => ?_)
    ·
      exact d_k_Mo_popOperand_17 r1 r1 rfl h_r1
    ·
      refine po_b (d_f_Mo_refuse r1 (6 : Int32) r1 rfl h_r1) (fun r11 h_r11 => ?_)
      exact d_k_Mo_popOperand_17 r1 r11 h_r11 h_r1
  refine X_i (fun _ => ?_) (fun _ => ?_)
  ·
    exact x_k_Mo_popOperand_17 r1 h_r1
  ·
    refine X_b (x_f_Mo_refuse (6 : Int32) r1 h_r1) (fun r11 h_r11 => ?_) (fun r11 h_r11 => ?_)
    rotate_left
    ·
      exact d_k_Mo_popOperand_17 r11 r11 rfl h_r11
    exact x_k_Mo_popOperand_17 r11 h_r11
set_option maxHeartbeats 4000000 in
set_option maxRecDepth 100000 in
def e_k_Mo_address_18 (q : z_Sg) : Option (Sum z_Dd z_Sg) :=
  (z_eb (e_f_Mo_takePlace q) (fun r3 => (z_nm (z_sL r3 7 ((z_gL r3 0) + (z_gI r3 6).toInt64)) (fun q4 => ((f_Mo_wide q4).bind (fun r6 => ((f_Mo_place q4).bind (fun r7 => ((f_Mo_setG r6 r7 q4).bind (fun r8 => ((k_Mo_address_56 r8).bind (fun o => some (.inr o)))))))))))))
theorem x_k_Mo_address_18 (q : z_Sg) (hq : z_gI q 4 = -1) : z_po (k_Mo_address_18 q) (z_X (fun o : z_Sg => o) (e_k_Mo_address_18 q)) := by
  unfold k_Mo_address_18 e_k_Mo_address_18
  refine X_b (x_f_Mo_takePlace q hq) (fun r3 h_r3 => ?_) (fun r3 h_r3 => ?_)
  rotate_left
  ·
    refine po_n (fun q4 e_q4 => ?_)
    have h_q4 : z_pn q4 = z_pn r3 := by rw [e_q4]; exact rfl
    refine po_f (pn_d h_q4 h_r3) ?_
    exact d_k_Mo_address_56 r3 q4 h_q4
  refine X_n (fun q4 e_q4 => ?_)
  have h_q4 : z_gI q4 4 = -1 := by rw [e_q4]; exact h_r3
  refine po_t h_q4 ?_
  refine X_p (R := fun _ => True) (fun _ _ => trivial) (fun r6 _ => ?_)
  refine X_p (R := fun _ => True) (fun _ _ => trivial) (fun r7 _ => ?_)
  refine X_p (d_f_Mo_setG q4 r6 r7 q4 rfl) (fun r8 k_r8 => ?_)
  have h_r8 : z_gI r8 4 = -1 := pn_a k_r8 h_q4
  exact X_t (d_k_Mo_address_56 r8 r8 rfl) h_r8
set_option maxHeartbeats 4000000 in
set_option maxRecDepth 100000 in
def e_f_Mo_address (q : z_Sg) : Option (Sum z_Dd z_Sg) :=
  (z_eb (e_f_Mo_takeMod q) (fun r1 => (if (z_gI r1 7) = (3 : Int32) then (z_eb (e_f_Mo_refuse (6 : Int32) r1) (fun r9 => (e_k_Mo_address_18 r9))) else (e_k_Mo_address_18 r1))))
theorem x_f_Mo_address (q : z_Sg) (hq : z_gI q 4 = -1) : z_po (f_Mo_address q) (z_X (fun o : z_Sg => o) (e_f_Mo_address q)) := by
  unfold f_Mo_address e_f_Mo_address
  refine X_b (x_f_Mo_takeMod q hq) (fun r1 h_r1 => ?_) (fun r1 h_r1 => ?_)
  rotate_left
  ·
    refine po_i (fun _ => ?_) (fun _ => ?_)
    ·
      refine po_b (d_f_Mo_refuse r1 (6 : Int32) r1 rfl h_r1) (fun r9 h_r9 => ?_)
      exact d_k_Mo_address_18 r1 r9 h_r9 h_r1
    ·
      exact d_k_Mo_address_18 r1 r1 rfl h_r1
  refine X_i (fun _ => ?_) (fun _ => ?_)
  ·
    refine X_b (x_f_Mo_refuse (6 : Int32) r1 h_r1) (fun r9 h_r9 => ?_) (fun r9 h_r9 => ?_)
    rotate_left
    ·
      exact d_k_Mo_address_18 r9 r9 rfl h_r9
    exact x_k_Mo_address_18 r9 h_r9
  ·
    exact x_k_Mo_address_18 r1 h_r1
set_option maxHeartbeats 4000000 in
set_option maxRecDepth 100000 in
def e_f_Mo_extend (x1 : Int32) (x2 : Int32) (q : z_Sg) : Option (Sum z_Dd z_Sg) :=
  (z_eb (e_f_Mo_takeOperand q) (fun r1 => (z_eb (e_f_Mo_e x2 (0 : Int32) r1) (fun r2 => ((f_Mo_extended r2.1 x2 r2.2).bind (fun r3 => ((f_Mo_setG x1 r3 r2.2).bind (fun r4 => (some (.inr r4))))))))))
theorem x_f_Mo_extend (x1 : Int32) (x2 : Int32) (q : z_Sg) (hq : z_gI q 4 = -1) : z_po (f_Mo_extend x1 x2 q) (z_X (fun o : z_Sg => o) (e_f_Mo_extend x1 x2 q)) := by
  unfold f_Mo_extend e_f_Mo_extend
  refine X_b (x_f_Mo_takeOperand q hq) (fun r1 h_r1 => ?_) (fun r1 h_r1 => ?_)
  rotate_left
  ·
    refine po_b (d_f_Mo_e r1 x2 (0 : Int32) r1 rfl h_r1) (fun r2 h_r2 => ?_)
    refine po_b (R := fun _ => True) (fun _ _ => trivial) (fun r3 _ => ?_)
    refine po_b (d_f_Mo_setG r1 x1 r3 r2.2 h_r2) (fun r4 h_r4 => ?_)
    exact po_s h_r4
  refine X_b (x_f_Mo_e x2 (0 : Int32) r1 h_r1) (fun r2 h_r2 => ?_) (fun r2 h_r2 => ?_)
  rotate_left
  ·
    refine po_b (R := fun _ => True) (fun _ _ => trivial) (fun r3 _ => ?_)
    refine po_b (d_f_Mo_setG r2.2 x1 r3 r2.2 rfl) (fun r4 h_r4 => ?_)
    exact po_s h_r4
  refine X_p (R := fun _ => True) (fun _ _ => trivial) (fun r3 _ => ?_)
  refine X_p (d_f_Mo_setG r2.2 x1 r3 r2.2 rfl) (fun r4 k_r4 => ?_)
  have h_r4 : z_gI r4 4 = -1 := pn_a k_r4 h_r2
  exact po_s (X_s h_r4)
set_option maxHeartbeats 4000000 in
set_option maxRecDepth 100000 in
def e_k_Mo_others_42 (x1 : Int32) (q : z_Sg) : Option (Sum z_Dd z_Sg) :=
  (z_eb (e_f_Mo_pushNumber x1 q) (fun r3 => ((k_Mo_others_261 r3).bind (fun o => some (.inr o)))))
theorem x_k_Mo_others_42 (x1 : Int32) (q : z_Sg) (hq : z_gI q 4 = -1) : z_po (k_Mo_others_42 x1 q) (z_X (fun o : z_Sg => o) (e_k_Mo_others_42 x1 q)) := by
  unfold k_Mo_others_42 e_k_Mo_others_42
  refine X_b (x_f_Mo_pushNumber x1 q hq) (fun r3 h_r3 => ?_) (fun r3 h_r3 => ?_)
  rotate_left
  ·
    exact d_k_Mo_others_261 r3 r3 rfl
  exact X_t (d_k_Mo_others_261 r3 r3 rfl) h_r3
set_option maxHeartbeats 4000000 in
set_option maxRecDepth 100000 in
def e_k_Mo_others_62 (x1 : Int32) (q : z_Sg) : Option (Sum z_Dd z_Sg) :=
  (z_eb (e_f_Mo_product x1 q) (fun r6 => ((k_Mo_others_261 r6).bind (fun o => some (.inr o)))))
theorem x_k_Mo_others_62 (x1 : Int32) (q : z_Sg) (hq : z_gI q 4 = -1) : z_po (k_Mo_others_62 x1 q) (z_X (fun o : z_Sg => o) (e_k_Mo_others_62 x1 q)) := by
  unfold k_Mo_others_62 e_k_Mo_others_62
  refine X_b (x_f_Mo_product x1 q hq) (fun r6 h_r6 => ?_) (fun r6 h_r6 => ?_)
  rotate_left
  ·
    exact d_k_Mo_others_261 r6 r6 rfl
  exact X_t (d_k_Mo_others_261 r6 r6 rfl) h_r6
set_option maxHeartbeats 4000000 in
set_option maxRecDepth 100000 in
def e_k_Mo_others_160 (x2 : Int32) (q : z_Sg) : Option (Sum z_Dd z_Sg) :=
  (z_eb (e_f_Mo_testNumber x2 q) (fun r13 => ((k_Mo_others_261 r13).bind (fun o => some (.inr o)))))
theorem x_k_Mo_others_160 (x2 : Int32) (q : z_Sg) (hq : z_gI q 4 = -1) : z_po (k_Mo_others_160 x2 q) (z_X (fun o : z_Sg => o) (e_k_Mo_others_160 x2 q)) := by
  unfold k_Mo_others_160 e_k_Mo_others_160
  refine X_b (x_f_Mo_testNumber x2 q hq) (fun r13 h_r13 => ?_) (fun r13 h_r13 => ?_)
  rotate_left
  ·
    exact d_k_Mo_others_261 r13 r13 rfl
  exact X_t (d_k_Mo_others_261 r13 r13 rfl) h_r13
set_option maxHeartbeats 4000000 in
set_option maxRecDepth 100000 in
def e_k_Mo_others_182 (x1 : Int32) (q : z_Sg) : Option (Sum z_Dd z_Sg) :=
  (z_eb (e_f_Mo_returns x1 q) (fun r16 => ((k_Mo_others_261 r16).bind (fun o => some (.inr o)))))
theorem x_k_Mo_others_182 (x1 : Int32) (q : z_Sg) (hq : z_gI q 4 = -1) : z_po (k_Mo_others_182 x1 q) (z_X (fun o : z_Sg => o) (e_k_Mo_others_182 x1 q)) := by
  unfold k_Mo_others_182 e_k_Mo_others_182
  refine X_b (x_f_Mo_returns x1 q hq) (fun r16 h_r16 => ?_) (fun r16 h_r16 => ?_)
  rotate_left
  ·
    exact d_k_Mo_others_261 r16 r16 rfl
  exact X_t (d_k_Mo_others_261 r16 r16 rfl) h_r16
set_option maxHeartbeats 4000000 in
set_option maxRecDepth 100000 in
def e_k_Mo_others_204 (x2 : Int32) (q : z_Sg) : Option (Sum z_Dd z_Sg) :=
  (z_eb (e_f_Mo_moveNumber x2 q) (fun r19 => ((k_Mo_others_261 r19).bind (fun o => some (.inr o)))))
theorem x_k_Mo_others_204 (x2 : Int32) (q : z_Sg) (hq : z_gI q 4 = -1) : z_po (k_Mo_others_204 x2 q) (z_X (fun o : z_Sg => o) (e_k_Mo_others_204 x2 q)) := by
  unfold k_Mo_others_204 e_k_Mo_others_204
  refine X_b (x_f_Mo_moveNumber x2 q hq) (fun r19 h_r19 => ?_) (fun r19 h_r19 => ?_)
  rotate_left
  ·
    exact d_k_Mo_others_261 r19 r19 rfl
  exact X_t (d_k_Mo_others_261 r19 r19 rfl) h_r19
set_option maxHeartbeats 4000000 in
set_option maxRecDepth 100000 in
def e_k_Mo_others_247 (x1 : Int32) (q : z_Sg) : Option (Sum z_Dd z_Sg) :=
  (z_eb (e_f_Mo_far x1 q) (fun r23 => ((k_Mo_others_261 r23).bind (fun o => some (.inr o)))))
theorem x_k_Mo_others_247 (x1 : Int32) (q : z_Sg) (hq : z_gI q 4 = -1) : z_po (k_Mo_others_247 x1 q) (z_X (fun o : z_Sg => o) (e_k_Mo_others_247 x1 q)) := by
  unfold k_Mo_others_247 e_k_Mo_others_247
  refine X_b (x_f_Mo_far x1 q hq) (fun r23 h_r23 => ?_) (fun r23 h_r23 => ?_)
  rotate_left
  ·
    exact d_k_Mo_others_261 r23 r23 rfl
  exact X_t (d_k_Mo_others_261 r23 r23 rfl) h_r23
set_option maxHeartbeats 4000000 in
set_option maxRecDepth 100000 in
def e_k_Mo_others_24 (t1 : Int32) (t2 : Int32) (q : z_Sg) : Option (Sum z_Dd z_Sg) :=
  (z_eb (e_f_Mo_extend t1 t2 q) (fun r39 => ((k_Mo_others_261 r39).bind (fun o => some (.inr o)))))
theorem x_k_Mo_others_24 (t1 : Int32) (t2 : Int32) (q : z_Sg) (hq : z_gI q 4 = -1) : z_po (k_Mo_others_24 t1 t2 q) (z_X (fun o : z_Sg => o) (e_k_Mo_others_24 t1 t2 q)) := by
  unfold k_Mo_others_24 e_k_Mo_others_24
  refine X_b (x_f_Mo_extend t1 t2 q hq) (fun r39 h_r39 => ?_) (fun r39 h_r39 => ?_)
  rotate_left
  ·
    exact d_k_Mo_others_261 r39 r39 rfl
  exact X_t (d_k_Mo_others_261 r39 r39 rfl) h_r39
set_option maxHeartbeats 4000000 in
set_option maxRecDepth 100000 in
def e_f_Mo_others (x1 : Int32) (x2 : Int32) (q : z_Sg) : Option (Sum z_Dd z_Sg) :=
  (if x1 = (99 : Int32) then ((f_Mo_wide q).bind (fun r36 => ((f_Mo_wide q).bind (fun r37 => (if r37 = (2 : Int32) then (e_k_Mo_others_24 r36 (2 : Int32) q) else (e_k_Mo_others_24 r36 (4 : Int32) q)))))) else (if x1 = (104 : Int32) then (e_k_Mo_others_42 x1 q) else (if x1 = (106 : Int32) then (e_k_Mo_others_42 x1 q) else (if x1 = (105 : Int32) then (e_k_Mo_others_62 x1 q) else (if x1 = (107 : Int32) then (e_k_Mo_others_62 x1 q) else (if x1 = (141 : Int32) then (z_eb (e_f_Mo_address q) (fun r35 => ((k_Mo_others_261 r35).bind (fun o => some (.inr o))))) else (if x1 = (143 : Int32) then (z_eb (e_f_Mo_popOperand q) (fun r34 => ((k_Mo_others_261 r34).bind (fun o => some (.inr o))))) else (if x1 = (156 : Int32) then ((f_Mo_flags q).bind (fun r31 => ((f_Mo_stackSize q).bind (fun r32 => (z_eb (e_f_Mo_push (r31 ||| (2 : Int64)) r32 q) (fun r33 => ((k_Mo_others_261 r33).bind (fun o => some (.inr o))))))))) else (if x1 = (157 : Int32) then ((f_Mo_stackSize q).bind (fun r28 => (z_eb (e_f_Mo_pop r28 q) (fun r29 => ((f_Mo_setFlags r29.1 r29.2).bind (fun r30 => ((k_Mo_others_261 r30).bind (fun o => some (.inr o))))))))) else (if x1 = (168 : Int32) then (e_k_Mo_others_160 x2 q) else (if x1 = (169 : Int32) then (e_k_Mo_others_160 x2 q) else (if x1 = (194 : Int32) then (e_k_Mo_others_182 x1 q) else (if x1 = (195 : Int32) then (e_k_Mo_others_182 x1 q) else (if x1 = (198 : Int32) then (e_k_Mo_others_204 x2 q) else (if x1 = (199 : Int32) then (e_k_Mo_others_204 x2 q) else (if x1 = (201 : Int32) then (z_eb (e_f_Mo_leaveFrame q) (fun r27 => ((k_Mo_others_261 r27).bind (fun o => some (.inr o))))) else (if x1 = (232 : Int32) then (e_k_Mo_others_247 x1 q) else (if x1 = (233 : Int32) then (e_k_Mo_others_247 x1 q) else (if x1 = (235 : Int32) then (e_k_Mo_others_247 x1 q) else (z_eb (e_f_Mo_refuse (6 : Int32) q) (fun r26 => ((k_Mo_others_261 r26).bind (fun o => some (.inr o))))))))))))))))))))))))
theorem x_f_Mo_others (x1 : Int32) (x2 : Int32) (q : z_Sg) (hq : z_gI q 4 = -1) : z_po (f_Mo_others x1 x2 q) (z_X (fun o : z_Sg => o) (e_f_Mo_others x1 x2 q)) := by
  unfold f_Mo_others e_f_Mo_others
  refine X_i (fun _ => ?_) (fun _ => ?_)
  ·
    refine X_p (R := fun _ => True) (fun _ _ => trivial) (fun r36 _ => ?_)
    refine X_p (R := fun _ => True) (fun _ _ => trivial) (fun r37 _ => ?_)
    refine X_i (fun _ => ?_) (fun _ => ?_)
    ·
      exact x_k_Mo_others_24 r36 (2 : Int32) q hq
    ·
      exact x_k_Mo_others_24 r36 (4 : Int32) q hq
  ·
    refine X_i (fun _ => ?_) (fun _ => ?_)
    ·
      exact x_k_Mo_others_42 x1 q hq
    ·
      refine X_i (fun _ => ?_) (fun _ => ?_)
      ·
        exact x_k_Mo_others_42 x1 q hq
      ·
        refine X_i (fun _ => ?_) (fun _ => ?_)
        ·
          exact x_k_Mo_others_62 x1 q hq
        ·
          refine X_i (fun _ => ?_) (fun _ => ?_)
          ·
            exact x_k_Mo_others_62 x1 q hq
          ·
            refine X_i (fun _ => ?_) (fun _ => ?_)
            ·
              refine X_b (x_f_Mo_address q hq) (fun r35 h_r35 => ?_) (fun r35 h_r35 => ?_)
              rotate_left
              ·
                exact d_k_Mo_others_261 r35 r35 rfl
              exact X_t (d_k_Mo_others_261 r35 r35 rfl) h_r35
            ·
              refine X_i (fun _ => ?_) (fun _ => ?_)
              ·
                refine X_b (x_f_Mo_popOperand q hq) (fun r34 h_r34 => ?_) (fun r34 h_r34 => ?_)
                rotate_left
                ·
                  exact d_k_Mo_others_261 r34 r34 rfl
                exact X_t (d_k_Mo_others_261 r34 r34 rfl) h_r34
              ·
                refine X_i (fun _ => ?_) (fun _ => ?_)
                ·
                  refine X_p (R := fun _ => True) (fun _ _ => trivial) (fun r31 _ => ?_)
                  refine X_p (R := fun _ => True) (fun _ _ => trivial) (fun r32 _ => ?_)
                  refine X_b (x_f_Mo_push (r31 ||| (2 : Int64)) r32 q hq) (fun r33 h_r33 => ?_) (fun r33 h_r33 => ?_)
                  rotate_left
                  ·
                    exact d_k_Mo_others_261 r33 r33 rfl
                  exact X_t (d_k_Mo_others_261 r33 r33 rfl) h_r33
                ·
                  refine X_i (fun _ => ?_) (fun _ => ?_)
                  ·
                    refine X_p (R := fun _ => True) (fun _ _ => trivial) (fun r28 _ => ?_)
                    refine X_b (x_f_Mo_pop r28 q hq) (fun r29 h_r29 => ?_) (fun r29 h_r29 => ?_)
                    rotate_left
                    ·
                      refine po_b (d_f_Mo_setFlags r29.2 r29.1 r29.2 rfl) (fun r30 h_r30 => ?_)
                      exact d_k_Mo_others_261 r29.2 r30 h_r30
                    refine X_p (d_f_Mo_setFlags r29.2 r29.1 r29.2 rfl) (fun r30 k_r30 => ?_)
                    have h_r30 : z_gI r30 4 = -1 := pn_a k_r30 h_r29
                    exact X_t (d_k_Mo_others_261 r30 r30 rfl) h_r30
                  ·
                    refine X_i (fun _ => ?_) (fun _ => ?_)
                    ·
                      exact x_k_Mo_others_160 x2 q hq
                    ·
                      refine X_i (fun _ => ?_) (fun _ => ?_)
                      ·
                        exact x_k_Mo_others_160 x2 q hq
                      ·
                        refine X_i (fun _ => ?_) (fun _ => ?_)
                        ·
                          exact x_k_Mo_others_182 x1 q hq
                        ·
                          refine X_i (fun _ => ?_) (fun _ => ?_)
                          ·
                            exact x_k_Mo_others_182 x1 q hq
                          ·
                            refine X_i (fun _ => ?_) (fun _ => ?_)
                            ·
                              exact x_k_Mo_others_204 x2 q hq
                            ·
                              refine X_i (fun _ => ?_) (fun _ => ?_)
                              ·
                                exact x_k_Mo_others_204 x2 q hq
                              ·
                                refine X_i (fun _ => ?_) (fun _ => ?_)
                                ·
                                  refine X_b (x_f_Mo_leaveFrame q hq) (fun r27 h_r27 => ?_) (fun r27 h_r27 => ?_)
                                  rotate_left
                                  ·
                                    exact d_k_Mo_others_261 r27 r27 rfl
                                  exact X_t (d_k_Mo_others_261 r27 r27 rfl) h_r27
                                ·
                                  refine X_i (fun _ => ?_) (fun _ => ?_)
                                  ·
                                    exact x_k_Mo_others_247 x1 q hq
                                  ·
                                    refine X_i (fun _ => ?_) (fun _ => ?_)
                                    ·
                                      exact x_k_Mo_others_247 x1 q hq
                                    ·
                                      refine X_i (fun _ => ?_) (fun _ => ?_)
                                      ·
                                        exact x_k_Mo_others_247 x1 q hq
                                      ·
                                        refine X_b (x_f_Mo_refuse (6 : Int32) q hq) (fun r26 h_r26 => ?_) (fun r26 h_r26 => ?_)
                                        rotate_left
                                        ·
                                          exact d_k_Mo_others_261 r26 r26 rfl
                                        exact X_t (d_k_Mo_others_261 r26 r26 rfl) h_r26
set_option maxHeartbeats 4000000 in
set_option maxRecDepth 100000 in
def e_k_Mo_loop_106 (x2 : Int64) (t0 : Int32) (q : z_Sg) : Option (Sum z_Dd z_Sg) :=
  (if t0 = 0 then ((k_Mo_loop_131 q).bind (fun o => some (.inr o))) else (z_eb (e_f_Mo_jump ((z_gL q 7) + x2) q) (fun r9 => ((k_Mo_loop_131 r9).bind (fun o => some (.inr o))))))
theorem x_k_Mo_loop_106 (x2 : Int64) (t0 : Int32) (q : z_Sg) (hq : z_gI q 4 = -1) : z_po (k_Mo_loop_106 x2 t0 q) (z_X (fun o : z_Sg => o) (e_k_Mo_loop_106 x2 t0 q)) := by
  unfold k_Mo_loop_106 e_k_Mo_loop_106
  refine X_i (fun _ => ?_) (fun _ => ?_)
  ·
    exact X_t (d_k_Mo_loop_131 q q rfl) hq
  ·
    refine po_t hq ?_
    refine X_b (x_f_Mo_jump ((z_gL q 7) + x2) q hq) (fun r9 h_r9 => ?_) (fun r9 h_r9 => ?_)
    rotate_left
    ·
      exact d_k_Mo_loop_131 r9 r9 rfl
    exact X_t (d_k_Mo_loop_131 r9 r9 rfl) h_r9
set_option maxHeartbeats 4000000 in
set_option maxRecDepth 100000 in
def e_k_Mo_loop_105 (x2 : Int64) (q : z_Sg) : Option (Sum z_Dd z_Sg) :=
  (e_k_Mo_loop_106 x2 (0 : Int32) q)
theorem x_k_Mo_loop_105 (x2 : Int64) (q : z_Sg) (hq : z_gI q 4 = -1) : z_po (k_Mo_loop_105 x2 q) (z_X (fun o : z_Sg => o) (e_k_Mo_loop_105 x2 q)) := by
  unfold k_Mo_loop_105 e_k_Mo_loop_105
  exact x_k_Mo_loop_106 x2 (0 : Int32) q hq
set_option maxHeartbeats 4000000 in
set_option maxRecDepth 100000 in
def e_k_Mo_loop_101 (x2 : Int64) (q : z_Sg) : Option (Sum z_Dd z_Sg) :=
  (e_k_Mo_loop_106 x2 (1 : Int32) q)
theorem x_k_Mo_loop_101 (x2 : Int64) (q : z_Sg) (hq : z_gI q 4 = -1) : z_po (k_Mo_loop_101 x2 q) (z_X (fun o : z_Sg => o) (e_k_Mo_loop_101 x2 q)) := by
  unfold k_Mo_loop_101 e_k_Mo_loop_101
  exact x_k_Mo_loop_106 x2 (1 : Int32) q hq
set_option maxHeartbeats 4000000 in
set_option maxRecDepth 100000 in
def e_k_Mo_loop_98 (x2 : Int64) (t0 : Int32) (t1 : Int32) (q : z_Sg) : Option (Sum z_Dd z_Sg) :=
  (if t0 = t1 then (e_k_Mo_loop_101 x2 q) else (e_k_Mo_loop_105 x2 q))
theorem x_k_Mo_loop_98 (x2 : Int64) (t0 : Int32) (t1 : Int32) (q : z_Sg) (hq : z_gI q 4 = -1) : z_po (k_Mo_loop_98 x2 t0 t1 q) (z_X (fun o : z_Sg => o) (e_k_Mo_loop_98 x2 t0 t1 q)) := by
  unfold k_Mo_loop_98 e_k_Mo_loop_98
  refine X_i (fun _ => ?_) (fun _ => ?_)
  ·
    exact x_k_Mo_loop_101 x2 q hq
  ·
    exact x_k_Mo_loop_105 x2 q hq
set_option maxHeartbeats 4000000 in
set_option maxRecDepth 100000 in
def e_k_Mo_loop_36 (x1 : Int32) (x2 : Int64) (q : z_Sg) : Option (Sum z_Dd z_Sg) :=
  (if x1 = (227 : Int32) then (if (z_bad (1 : Int32) 16) then none else (if (z_gM q 0 (1 : Int32).toNatClampNeg) = (0 : Int64) then (e_k_Mo_loop_106 x2 (1 : Int32) q) else (e_k_Mo_loop_106 x2 (0 : Int32) q))) else (if (z_bad (1 : Int32) 16) then none else (if (z_gM q 0 (1 : Int32).toNatClampNeg) = (0 : Int64) then (e_k_Mo_loop_105 x2 q) else (if x1 = (226 : Int32) then (e_k_Mo_loop_101 x2 q) else (if (z_bad (3 : Int32) 7) then none else (if x1 = (225 : Int32) then (e_k_Mo_loop_98 x2 (z_gN q 1 (3 : Int32).toNatClampNeg) (1 : Int32) q) else (e_k_Mo_loop_98 x2 (z_gN q 1 (3 : Int32).toNatClampNeg) (0 : Int32) q)))))))
theorem x_k_Mo_loop_36 (x1 : Int32) (x2 : Int64) (q : z_Sg) (hq : z_gI q 4 = -1) : z_po (k_Mo_loop_36 x1 x2 q) (z_X (fun o : z_Sg => o) (e_k_Mo_loop_36 x1 x2 q)) := by
  unfold k_Mo_loop_36 e_k_Mo_loop_36
  refine X_i (fun _ => ?_) (fun _ => ?_)
  ·
    refine X_g (fun _ => ?_)
    refine X_i (fun _ => ?_) (fun _ => ?_)
    ·
      exact x_k_Mo_loop_106 x2 (1 : Int32) q hq
    ·
      exact x_k_Mo_loop_106 x2 (0 : Int32) q hq
  ·
    refine X_g (fun _ => ?_)
    refine X_i (fun _ => ?_) (fun _ => ?_)
    ·
      exact x_k_Mo_loop_105 x2 q hq
    ·
      refine X_i (fun _ => ?_) (fun _ => ?_)
      ·
        exact x_k_Mo_loop_101 x2 q hq
      ·
        refine X_g (fun _ => ?_)
        refine X_i (fun _ => ?_) (fun _ => ?_)
        ·
          exact x_k_Mo_loop_98 x2 (z_gN q 1 (3 : Int32).toNatClampNeg) (1 : Int32) q hq
        ·
          exact x_k_Mo_loop_98 x2 (z_gN q 1 (3 : Int32).toNatClampNeg) (0 : Int32) q hq
set_option maxHeartbeats 4000000 in
set_option maxRecDepth 100000 in
def e_k_Mo_loop_13 (x1 : Int32) (q : z_Sg) : Option (Sum z_Dd z_Sg) :=
  (z_eb (e_f_Mo_number (1 : Int32) q) (fun r2 => (if x1 = (227 : Int32) then (e_k_Mo_loop_36 x1 r2.1 r2.2) else (if (z_bad (1 : Int32) 16) then none else (if (z_bad (1 : Int32) 16) then none else (z_nm (z_sM r2.2 0 (1 : Int32).toNatClampNeg ((z_gM r2.2 0 (1 : Int32).toNatClampNeg) - (1 : Int64))) (fun q18 => (e_k_Mo_loop_36 x1 r2.1 q18))))))))
theorem x_k_Mo_loop_13 (x1 : Int32) (q : z_Sg) (hq : z_gI q 4 = -1) : z_po (k_Mo_loop_13 x1 q) (z_X (fun o : z_Sg => o) (e_k_Mo_loop_13 x1 q)) := by
  unfold k_Mo_loop_13 e_k_Mo_loop_13
  refine X_b (x_f_Mo_number (1 : Int32) q hq) (fun r2 h_r2 => ?_) (fun r2 h_r2 => ?_)
  rotate_left
  ·
    refine po_i (fun _ => ?_) (fun _ => ?_)
    ·
      exact d_k_Mo_loop_36 r2.2 x1 r2.1 r2.2 rfl h_r2
    ·
      refine po_g (fun _ => ?_)
      refine po_g (fun _ => ?_)
      refine po_n (fun q18 e_q18 => ?_)
      have h_q18 : z_pn q18 = z_pn r2.2 := by rw [e_q18]; exact rfl
      exact d_k_Mo_loop_36 r2.2 x1 r2.1 q18 h_q18 h_r2
  refine X_i (fun _ => ?_) (fun _ => ?_)
  ·
    exact x_k_Mo_loop_36 x1 r2.1 r2.2 h_r2
  ·
    refine X_g (fun _ => ?_)
    refine X_g (fun _ => ?_)
    refine X_n (fun q18 e_q18 => ?_)
    have h_q18 : z_gI q18 4 = -1 := by rw [e_q18]; exact h_r2
    exact x_k_Mo_loop_36 x1 r2.1 q18 h_q18
set_option maxHeartbeats 4000000 in
set_option maxRecDepth 100000 in
def e_f_Mo_loop (x1 : Int32) (q : z_Sg) : Option (Sum z_Dd z_Sg) :=
  (if (z_gI q 16) = 0 then (e_k_Mo_loop_13 x1 q) else (z_eb (e_f_Mo_refuse (6 : Int32) q) (fun r19 => (e_k_Mo_loop_13 x1 r19))))
theorem x_f_Mo_loop (x1 : Int32) (q : z_Sg) (hq : z_gI q 4 = -1) : z_po (f_Mo_loop x1 q) (z_X (fun o : z_Sg => o) (e_f_Mo_loop x1 q)) := by
  unfold f_Mo_loop e_f_Mo_loop
  refine X_i (fun _ => ?_) (fun _ => ?_)
  ·
    exact x_k_Mo_loop_13 x1 q hq
  ·
    refine X_b (x_f_Mo_refuse (6 : Int32) q hq) (fun r19 h_r19 => ?_) (fun r19 h_r19 => ?_)
    rotate_left
    ·
      exact d_k_Mo_loop_13 r19 x1 r19 rfl h_r19
    exact x_k_Mo_loop_13 x1 r19 h_r19
set_option maxHeartbeats 4000000 in
set_option maxRecDepth 100000 in
def e_k_Mo_immediate_15 (x1 : Int32) (t0 : Int32) (q : z_Sg) : Option (Sum z_Dd z_Sg) :=
  (z_eb (e_f_Mo_number t0 q) (fun r3 => ((f_Mo_plus (1 : Int32) r3.2).bind (fun r4 => ((f_Mo_put8 ((x1 - ((x1 / (8 : Int32)) * (8 : Int32))) + r4) t0 r3.1 r3.2).bind (fun r5 => (some (.inr r5))))))))
theorem x_k_Mo_immediate_15 (x1 : Int32) (t0 : Int32) (q : z_Sg) (hq : z_gI q 4 = -1) : z_po (k_Mo_immediate_15 x1 t0 q) (z_X (fun o : z_Sg => o) (e_k_Mo_immediate_15 x1 t0 q)) := by
  unfold k_Mo_immediate_15 e_k_Mo_immediate_15
  refine X_b (x_f_Mo_number t0 q hq) (fun r3 h_r3 => ?_) (fun r3 h_r3 => ?_)
  rotate_left
  ·
    refine po_b (R := fun _ => True) (fun _ _ => trivial) (fun r4 _ => ?_)
    refine po_b (d_f_Mo_put8 r3.2 ((x1 - ((x1 / (8 : Int32)) * (8 : Int32))) + r4) t0 r3.1 r3.2 rfl) (fun r5 h_r5 => ?_)
    exact po_s h_r5
  refine X_p (R := fun _ => True) (fun _ _ => trivial) (fun r4 _ => ?_)
  refine X_p (d_f_Mo_put8 r3.2 ((x1 - ((x1 / (8 : Int32)) * (8 : Int32))) + r4) t0 r3.1 r3.2 rfl) (fun r5 k_r5 => ?_)
  have h_r5 : z_gI r5 4 = -1 := pn_a k_r5 h_r3
  exact po_s (X_s h_r5)
set_option maxHeartbeats 4000000 in
set_option maxRecDepth 100000 in
def e_f_Mo_immediate (x1 : Int32) (q : z_Sg) : Option (Sum z_Dd z_Sg) :=
  (if (184 : Int32) ≤ x1 then ((f_Mo_wide q).bind (fun r2 => (e_k_Mo_immediate_15 x1 r2 q))) else (e_k_Mo_immediate_15 x1 (1 : Int32) q))
theorem x_f_Mo_immediate (x1 : Int32) (q : z_Sg) (hq : z_gI q 4 = -1) : z_po (f_Mo_immediate x1 q) (z_X (fun o : z_Sg => o) (e_f_Mo_immediate x1 q)) := by
  unfold f_Mo_immediate e_f_Mo_immediate
  refine X_i (fun _ => ?_) (fun _ => ?_)
  ·
    refine X_p (R := fun _ => True) (fun _ _ => trivial) (fun r2 _ => ?_)
    exact x_k_Mo_immediate_15 x1 r2 q hq
  ·
    exact x_k_Mo_immediate_15 x1 (1 : Int32) q hq
set_option maxHeartbeats 4000000 in
set_option maxRecDepth 100000 in
def e_k_Mo_string_107 (x2 : Int32) (x3 : Int32) (x4 : Int32) (x5 : Int32) (t0 : Int64) (q : z_Sg) : Option (Sum z_Dd z_Sg) :=
  (if x4 = 0 then (if x5 = 0 then ((f_Mo_put8 (0 : Int32) x2 t0 q).bind (fun r9 => ((k_Mo_string_177 x2 x3 x4 x5 r9).bind (fun o => some (.inr o))))) else (if (z_bad (7 : Int32) 16) then none else (z_eb (e_f_Mo_lookUp (z_gM q 0 (7 : Int32).toNatClampNeg) x2 (1 : Int32) (0 : Int32) q) (fun r33 => ((f_Mo_hold t0 x2 r33).bind (fun r34 => ((k_Mo_string_177 x2 x3 x4 x5 r34).bind (fun o => some (.inr o))))))))) else (if (z_bad (7 : Int32) 16) then none else (z_eb (e_f_Mo_load (z_gM q 0 (7 : Int32).toNatClampNeg) x2 (0 : Int32) q) (fun r36 => ((f_Mo_add t0 r36.1 (0 : Int32) (1 : Int32) x2 r36.2).bind (fun r37 => ((k_Mo_string_177 x2 x3 x4 x5 r37.2).bind (fun o => some (.inr o)))))))))
theorem x_k_Mo_string_107 (x2 : Int32) (x3 : Int32) (x4 : Int32) (x5 : Int32) (t0 : Int64) (q : z_Sg) (hq : z_gI q 4 = -1) : z_po (k_Mo_string_107 x2 x3 x4 x5 t0 q) (z_X (fun o : z_Sg => o) (e_k_Mo_string_107 x2 x3 x4 x5 t0 q)) := by
  unfold k_Mo_string_107 e_k_Mo_string_107
  refine X_i (fun _ => ?_) (fun _ => ?_)
  ·
    refine X_i (fun _ => ?_) (fun _ => ?_)
    ·
      refine X_p (d_f_Mo_put8 q (0 : Int32) x2 t0 q rfl) (fun r9 k_r9 => ?_)
      have h_r9 : z_gI r9 4 = -1 := pn_a k_r9 hq
      exact X_t (d_k_Mo_string_177 r9 x2 x3 x4 x5 r9 rfl) h_r9
    ·
      refine X_g (fun _ => ?_)
      refine X_b (x_f_Mo_lookUp (z_gM q 0 (7 : Int32).toNatClampNeg) x2 (1 : Int32) (0 : Int32) q hq) (fun r33 h_r33 => ?_) (fun r33 h_r33 => ?_)
      rotate_left
      ·
        refine po_b (d_f_Mo_hold r33 t0 x2 r33 rfl) (fun r34 h_r34 => ?_)
        exact d_k_Mo_string_177 r33 x2 x3 x4 x5 r34 h_r34
      refine X_p (d_f_Mo_hold r33 t0 x2 r33 rfl) (fun r34 k_r34 => ?_)
      have h_r34 : z_gI r34 4 = -1 := pn_a k_r34 h_r33
      exact X_t (d_k_Mo_string_177 r34 x2 x3 x4 x5 r34 rfl) h_r34
  ·
    refine X_g (fun _ => ?_)
    refine X_b (x_f_Mo_load (z_gM q 0 (7 : Int32).toNatClampNeg) x2 (0 : Int32) q hq) (fun r36 h_r36 => ?_) (fun r36 h_r36 => ?_)
    rotate_left
    ·
      refine po_b (d_f_Mo_add r36.2 t0 r36.1 (0 : Int32) (1 : Int32) x2 r36.2 rfl) (fun r37 h_r37 => ?_)
      exact d_k_Mo_string_177 r36.2 x2 x3 x4 x5 r37.2 h_r37
    refine X_p (d_f_Mo_add r36.2 t0 r36.1 (0 : Int32) (1 : Int32) x2 r36.2 rfl) (fun r37 k_r37 => ?_)
    have h_r37 : z_gI r37.2 4 = -1 := pn_a k_r37 h_r36
    exact X_t (d_k_Mo_string_177 r37.2 x2 x3 x4 x5 r37.2 rfl) h_r37
set_option maxHeartbeats 4000000 in
set_option maxRecDepth 100000 in
def e_k_Mo_string_79 (x2 : Int32) (x3 : Int32) (x4 : Int32) (t0 : Int32) (q : z_Sg) : Option (Sum z_Dd z_Sg) :=
  (if x3 = 0 then ((f_Mo_get8 (0 : Int32) x2 q).bind (fun r6 => (e_k_Mo_string_107 x2 x3 x4 t0 r6 q))) else (if (z_bad (6 : Int32) 16) then none else (z_eb (e_f_Mo_load (z_gM q 0 (6 : Int32).toNatClampNeg) x2 (0 : Int32) q) (fun r39 => (e_k_Mo_string_107 x2 x3 x4 t0 r39.1 r39.2)))))
theorem x_k_Mo_string_79 (x2 : Int32) (x3 : Int32) (x4 : Int32) (t0 : Int32) (q : z_Sg) (hq : z_gI q 4 = -1) : z_po (k_Mo_string_79 x2 x3 x4 t0 q) (z_X (fun o : z_Sg => o) (e_k_Mo_string_79 x2 x3 x4 t0 q)) := by
  unfold k_Mo_string_79 e_k_Mo_string_79
  refine X_i (fun _ => ?_) (fun _ => ?_)
  ·
    refine X_p (R := fun _ => True) (fun _ _ => trivial) (fun r6 _ => ?_)
    exact x_k_Mo_string_107 x2 x3 x4 t0 r6 q hq
  ·
    refine X_g (fun _ => ?_)
    refine X_b (x_f_Mo_load (z_gM q 0 (6 : Int32).toNatClampNeg) x2 (0 : Int32) q hq) (fun r39 h_r39 => ?_) (fun r39 h_r39 => ?_)
    rotate_left
    ·
      exact d_k_Mo_string_107 r39.2 x2 x3 x4 t0 r39.1 r39.2 rfl h_r39
    exact x_k_Mo_string_107 x2 x3 x4 t0 r39.1 r39.2 h_r39
set_option maxHeartbeats 4000000 in
set_option maxRecDepth 100000 in
def e_k_Mo_string_65 (x1 : Int32) (x2 : Int32) (x3 : Int32) (t0 : Int32) (q : z_Sg) : Option (Sum z_Dd z_Sg) :=
  (if x1 = (172 : Int32) then (e_k_Mo_string_79 x2 x3 t0 (0 : Int32) q) else (e_k_Mo_string_79 x2 x3 t0 (1 : Int32) q))
theorem x_k_Mo_string_65 (x1 : Int32) (x2 : Int32) (x3 : Int32) (t0 : Int32) (q : z_Sg) (hq : z_gI q 4 = -1) : z_po (k_Mo_string_65 x1 x2 x3 t0 q) (z_X (fun o : z_Sg => o) (e_k_Mo_string_65 x1 x2 x3 t0 q)) := by
  unfold k_Mo_string_65 e_k_Mo_string_65
  refine X_i (fun _ => ?_) (fun _ => ?_)
  ·
    exact x_k_Mo_string_79 x2 x3 t0 (0 : Int32) q hq
  ·
    exact x_k_Mo_string_79 x2 x3 t0 (1 : Int32) q hq
set_option maxHeartbeats 4000000 in
set_option maxRecDepth 100000 in
def e_k_Mo_string_60 (x1 : Int32) (x2 : Int32) (x3 : Int32) (q : z_Sg) : Option (Sum z_Dd z_Sg) :=
  (e_k_Mo_string_65 x1 x2 x3 (1 : Int32) q)
theorem x_k_Mo_string_60 (x1 : Int32) (x2 : Int32) (x3 : Int32) (q : z_Sg) (hq : z_gI q 4 = -1) : z_po (k_Mo_string_60 x1 x2 x3 q) (z_X (fun o : z_Sg => o) (e_k_Mo_string_60 x1 x2 x3 q)) := by
  unfold k_Mo_string_60 e_k_Mo_string_60
  exact x_k_Mo_string_65 x1 x2 x3 (1 : Int32) q hq
set_option maxHeartbeats 4000000 in
set_option maxRecDepth 100000 in
def e_k_Mo_string_45 (x1 : Int32) (x2 : Int32) (t0 : Int32) (q : z_Sg) : Option (Sum z_Dd z_Sg) :=
  (if x1 = (166 : Int32) then (e_k_Mo_string_60 x1 x2 t0 q) else (if x1 = (174 : Int32) then (e_k_Mo_string_60 x1 x2 t0 q) else (e_k_Mo_string_65 x1 x2 t0 (0 : Int32) q)))
theorem x_k_Mo_string_45 (x1 : Int32) (x2 : Int32) (t0 : Int32) (q : z_Sg) (hq : z_gI q 4 = -1) : z_po (k_Mo_string_45 x1 x2 t0 q) (z_X (fun o : z_Sg => o) (e_k_Mo_string_45 x1 x2 t0 q)) := by
  unfold k_Mo_string_45 e_k_Mo_string_45
  refine X_i (fun _ => ?_) (fun _ => ?_)
  ·
    exact x_k_Mo_string_60 x1 x2 t0 q hq
  ·
    refine X_i (fun _ => ?_) (fun _ => ?_)
    ·
      exact x_k_Mo_string_60 x1 x2 t0 q hq
    ·
      exact x_k_Mo_string_65 x1 x2 t0 (0 : Int32) q hq
set_option maxHeartbeats 4000000 in
set_option maxRecDepth 100000 in
def e_k_Mo_string_40 (x1 : Int32) (x2 : Int32) (q : z_Sg) : Option (Sum z_Dd z_Sg) :=
  (e_k_Mo_string_45 x1 x2 (1 : Int32) q)
theorem x_k_Mo_string_40 (x1 : Int32) (x2 : Int32) (q : z_Sg) (hq : z_gI q 4 = -1) : z_po (k_Mo_string_40 x1 x2 q) (z_X (fun o : z_Sg => o) (e_k_Mo_string_40 x1 x2 q)) := by
  unfold k_Mo_string_40 e_k_Mo_string_40
  exact x_k_Mo_string_45 x1 x2 (1 : Int32) q hq
set_option maxHeartbeats 4000000 in
set_option maxRecDepth 100000 in
def e_k_Mo_string_19 (x1 : Int32) (x2 : Int32) (q : z_Sg) : Option (Sum z_Dd z_Sg) :=
  (if x1 = (164 : Int32) then (e_k_Mo_string_40 x1 x2 q) else (if x1 = (166 : Int32) then (e_k_Mo_string_40 x1 x2 q) else (if x1 = (172 : Int32) then (e_k_Mo_string_40 x1 x2 q) else (e_k_Mo_string_45 x1 x2 (0 : Int32) q))))
theorem x_k_Mo_string_19 (x1 : Int32) (x2 : Int32) (q : z_Sg) (hq : z_gI q 4 = -1) : z_po (k_Mo_string_19 x1 x2 q) (z_X (fun o : z_Sg => o) (e_k_Mo_string_19 x1 x2 q)) := by
  unfold k_Mo_string_19 e_k_Mo_string_19
  refine X_i (fun _ => ?_) (fun _ => ?_)
  ·
    exact x_k_Mo_string_40 x1 x2 q hq
  ·
    refine X_i (fun _ => ?_) (fun _ => ?_)
    ·
      exact x_k_Mo_string_40 x1 x2 q hq
    ·
      refine X_i (fun _ => ?_) (fun _ => ?_)
      ·
        exact x_k_Mo_string_40 x1 x2 q hq
      ·
        exact x_k_Mo_string_45 x1 x2 (0 : Int32) q hq
set_option maxHeartbeats 4000000 in
set_option maxRecDepth 100000 in
def e_f_Mo_string (x1 : Int32) (x2 : Int32) (q : z_Sg) : Option (Sum z_Dd z_Sg) :=
  (if (z_gI q 11) = 0 then (e_k_Mo_string_19 x1 x2 q) else (if (z_bad (1 : Int32) 16) then none else (if (z_gM q 0 (1 : Int32).toNatClampNeg) = (0 : Int64) then (some (.inr q)) else (e_k_Mo_string_19 x1 x2 q))))
theorem x_f_Mo_string (x1 : Int32) (x2 : Int32) (q : z_Sg) (hq : z_gI q 4 = -1) : z_po (f_Mo_string x1 x2 q) (z_X (fun o : z_Sg => o) (e_f_Mo_string x1 x2 q)) := by
  unfold f_Mo_string e_f_Mo_string
  refine X_i (fun _ => ?_) (fun _ => ?_)
  ·
    exact x_k_Mo_string_19 x1 x2 q hq
  ·
    refine X_g (fun _ => ?_)
    refine X_i (fun _ => ?_) (fun _ => ?_)
    ·
      exact po_s (X_s hq)
    ·
      exact x_k_Mo_string_19 x1 x2 q hq
set_option maxHeartbeats 4000000 in
set_option maxRecDepth 100000 in
def e_f_Mo_move (x1 : Int32) (x2 : Int32) (q : z_Sg) : Option (Sum z_Dd z_Sg) :=
  (z_eb (e_f_Mo_takeOperand q) (fun r1 => ((f_Mo_g x2 r1).bind (fun r2 => (if (134 : Int32) ≤ x1 then (if (136 : Int32) ≤ x1 then (if (138 : Int32) ≤ x1 then (z_eb (e_f_Mo_e x2 (0 : Int32) r1) (fun r6 => ((f_Mo_setG x2 r6.1 r6.2).bind (fun r7 => ((k_Mo_move_99 r7).bind (fun o => some (.inr o))))))) else (z_eb (e_f_Mo_e x2 (1 : Int32) r1) (fun r8 => ((f_Mo_setE x2 r2 r8.2).bind (fun r9 => ((k_Mo_move_99 r9).bind (fun o => some (.inr o)))))))) else (z_eb (e_f_Mo_e x2 (1 : Int32) r1) (fun r10 => ((f_Mo_setE x2 r2 r10.2).bind (fun r11 => ((f_Mo_setG x2 r10.1 r11).bind (fun r12 => ((k_Mo_move_99 r12).bind (fun o => some (.inr o)))))))))) else (z_eb (e_f_Mo_e x2 (0 : Int32) r1) (fun r13 => ((f_Mo_logic (r13.1 &&& r2) x2 r13.2).bind (fun r14 => ((k_Mo_move_99 r14.2).bind (fun o => some (.inr o))))))))))))
theorem x_f_Mo_move (x1 : Int32) (x2 : Int32) (q : z_Sg) (hq : z_gI q 4 = -1) : z_po (f_Mo_move x1 x2 q) (z_X (fun o : z_Sg => o) (e_f_Mo_move x1 x2 q)) := by
  unfold f_Mo_move e_f_Mo_move
  refine X_b (x_f_Mo_takeOperand q hq) (fun r1 h_r1 => ?_) (fun r1 h_r1 => ?_)
  rotate_left
  ·
    refine po_b (R := fun _ => True) (fun _ _ => trivial) (fun r2 _ => ?_)
    refine po_i (fun _ => ?_) (fun _ => ?_)
    ·
      refine po_i (fun _ => ?_) (fun _ => ?_)
      ·
        refine po_i (fun _ => ?_) (fun _ => ?_)
        ·
          refine po_b (d_f_Mo_e r1 x2 (0 : Int32) r1 rfl h_r1) (fun r6 h_r6 => ?_)
          refine po_b (d_f_Mo_setG r1 x2 r6.1 r6.2 h_r6) (fun r7 h_r7 => ?_)
          exact d_k_Mo_move_99 r1 r7 h_r7
        ·
          refine po_b (d_f_Mo_e r1 x2 (1 : Int32) r1 rfl h_r1) (fun r8 h_r8 => ?_)
          refine po_b (d_f_Mo_setE r1 x2 r2 r8.2 h_r8) (fun r9 h_r9 => ?_)
          exact d_k_Mo_move_99 r1 r9 h_r9
      ·
        refine po_b (d_f_Mo_e r1 x2 (1 : Int32) r1 rfl h_r1) (fun r10 h_r10 => ?_)
        refine po_b (d_f_Mo_setE r1 x2 r2 r10.2 h_r10) (fun r11 h_r11 => ?_)
        refine po_b (d_f_Mo_setG r1 x2 r10.1 r11 h_r11) (fun r12 h_r12 => ?_)
        exact d_k_Mo_move_99 r1 r12 h_r12
    ·
      refine po_b (d_f_Mo_e r1 x2 (0 : Int32) r1 rfl h_r1) (fun r13 h_r13 => ?_)
      refine po_b (d_f_Mo_logic r1 (r13.1 &&& r2) x2 r13.2 h_r13) (fun r14 h_r14 => ?_)
      exact d_k_Mo_move_99 r1 r14.2 h_r14
  refine X_p (R := fun _ => True) (fun _ _ => trivial) (fun r2 _ => ?_)
  refine X_i (fun _ => ?_) (fun _ => ?_)
  ·
    refine X_i (fun _ => ?_) (fun _ => ?_)
    ·
      refine X_i (fun _ => ?_) (fun _ => ?_)
      ·
        refine X_b (x_f_Mo_e x2 (0 : Int32) r1 h_r1) (fun r6 h_r6 => ?_) (fun r6 h_r6 => ?_)
        rotate_left
        ·
          refine po_b (d_f_Mo_setG r6.2 x2 r6.1 r6.2 rfl) (fun r7 h_r7 => ?_)
          exact d_k_Mo_move_99 r6.2 r7 h_r7
        refine X_p (d_f_Mo_setG r6.2 x2 r6.1 r6.2 rfl) (fun r7 k_r7 => ?_)
        have h_r7 : z_gI r7 4 = -1 := pn_a k_r7 h_r6
        exact X_t (d_k_Mo_move_99 r7 r7 rfl) h_r7
      ·
        refine X_b (x_f_Mo_e x2 (1 : Int32) r1 h_r1) (fun r8 h_r8 => ?_) (fun r8 h_r8 => ?_)
        rotate_left
        ·
          refine po_b (d_f_Mo_setE r8.2 x2 r2 r8.2 rfl) (fun r9 h_r9 => ?_)
          exact d_k_Mo_move_99 r8.2 r9 h_r9
        refine X_p (d_f_Mo_setE r8.2 x2 r2 r8.2 rfl) (fun r9 k_r9 => ?_)
        have h_r9 : z_gI r9 4 = -1 := pn_a k_r9 h_r8
        exact X_t (d_k_Mo_move_99 r9 r9 rfl) h_r9
    ·
      refine X_b (x_f_Mo_e x2 (1 : Int32) r1 h_r1) (fun r10 h_r10 => ?_) (fun r10 h_r10 => ?_)
      rotate_left
      ·
        refine po_b (d_f_Mo_setE r10.2 x2 r2 r10.2 rfl) (fun r11 h_r11 => ?_)
        refine po_b (d_f_Mo_setG r10.2 x2 r10.1 r11 h_r11) (fun r12 h_r12 => ?_)
        exact d_k_Mo_move_99 r10.2 r12 h_r12
      refine X_p (d_f_Mo_setE r10.2 x2 r2 r10.2 rfl) (fun r11 k_r11 => ?_)
      have h_r11 : z_gI r11 4 = -1 := pn_a k_r11 h_r10
      refine X_p (d_f_Mo_setG r11 x2 r10.1 r11 rfl) (fun r12 k_r12 => ?_)
      have h_r12 : z_gI r12 4 = -1 := pn_a k_r12 h_r11
      exact X_t (d_k_Mo_move_99 r12 r12 rfl) h_r12
  ·
    refine X_b (x_f_Mo_e x2 (0 : Int32) r1 h_r1) (fun r13 h_r13 => ?_) (fun r13 h_r13 => ?_)
    rotate_left
    ·
      refine po_b (d_f_Mo_logic r13.2 (r13.1 &&& r2) x2 r13.2 rfl) (fun r14 h_r14 => ?_)
      exact d_k_Mo_move_99 r13.2 r14.2 h_r14
    refine X_p (d_f_Mo_logic r13.2 (r13.1 &&& r2) x2 r13.2 rfl) (fun r14 k_r14 => ?_)
    have h_r14 : z_gI r14.2 4 = -1 := pn_a k_r14 h_r13
    exact X_t (d_k_Mo_move_99 r14.2 r14.2 rfl) h_r14
set_option maxHeartbeats 4000000 in
set_option maxRecDepth 100000 in
def e_k_Mo_branch_13 (x1 : Int32) (x2 : Int32) (q : z_Sg) : Option (Sum z_Dd z_Sg) :=
  (z_eb (e_f_Mo_number x2 q) (fun r2 => (if x1 = 0 then ((k_Mo_branch_41 r2.2).bind (fun o => some (.inr o))) else (z_eb (e_f_Mo_jump ((z_gL r2.2 7) + r2.1) r2.2) (fun r5 => ((k_Mo_branch_41 r5).bind (fun o => some (.inr o))))))))
theorem x_k_Mo_branch_13 (x1 : Int32) (x2 : Int32) (q : z_Sg) (hq : z_gI q 4 = -1) : z_po (k_Mo_branch_13 x1 x2 q) (z_X (fun o : z_Sg => o) (e_k_Mo_branch_13 x1 x2 q)) := by
  unfold k_Mo_branch_13 e_k_Mo_branch_13
  refine X_b (x_f_Mo_number x2 q hq) (fun r2 h_r2 => ?_) (fun r2 h_r2 => ?_)
  rotate_left
  ·
    refine po_i (fun _ => ?_) (fun _ => ?_)
    ·
      exact d_k_Mo_branch_41 r2.2 r2.2 rfl
    ·
      refine po_f (pn_d rfl h_r2) ?_
      exact d_k_Mo_branch_41 r2.2 r2.2 rfl
  refine X_i (fun _ => ?_) (fun _ => ?_)
  ·
    exact X_t (d_k_Mo_branch_41 r2.2 r2.2 rfl) h_r2
  ·
    refine po_t h_r2 ?_
    refine X_b (x_f_Mo_jump ((z_gL r2.2 7) + r2.1) r2.2 h_r2) (fun r5 h_r5 => ?_) (fun r5 h_r5 => ?_)
    rotate_left
    ·
      exact d_k_Mo_branch_41 r5 r5 rfl
    exact X_t (d_k_Mo_branch_41 r5 r5 rfl) h_r5
set_option maxHeartbeats 4000000 in
set_option maxRecDepth 100000 in
def e_f_Mo_branch (x1 : Int32) (x2 : Int32) (q : z_Sg) : Option (Sum z_Dd z_Sg) :=
  (if (z_gI q 16) = 0 then (e_k_Mo_branch_13 x1 x2 q) else (z_eb (e_f_Mo_refuse (6 : Int32) q) (fun r6 => (e_k_Mo_branch_13 x1 x2 r6))))
theorem x_f_Mo_branch (x1 : Int32) (x2 : Int32) (q : z_Sg) (hq : z_gI q 4 = -1) : z_po (f_Mo_branch x1 x2 q) (z_X (fun o : z_Sg => o) (e_f_Mo_branch x1 x2 q)) := by
  unfold f_Mo_branch e_f_Mo_branch
  refine X_i (fun _ => ?_) (fun _ => ?_)
  ·
    exact x_k_Mo_branch_13 x1 x2 q hq
  ·
    refine X_b (x_f_Mo_refuse (6 : Int32) q hq) (fun r6 h_r6 => ?_) (fun r6 h_r6 => ?_)
    rotate_left
    ·
      exact d_k_Mo_branch_13 r6 x1 x2 r6 rfl h_r6
    exact x_k_Mo_branch_13 x1 x2 r6 h_r6
set_option maxHeartbeats 4000000 in
set_option maxRecDepth 100000 in
def e_f_Mo_shortStack (x1 : Int32) (q : z_Sg) : Option (Sum z_Dd z_Sg) :=
  ((f_Mo_plus (1 : Int32) q).bind (fun r1 => (z_nm ((x1 - ((x1 / (8 : Int32)) * (8 : Int32))) + r1) (fun n2 => (if (88 : Int32) ≤ x1 then ((f_Mo_stackSize q).bind (fun r4 => ((f_Mo_stackSize q).bind (fun r5 => (z_eb (e_f_Mo_pop r5 q) (fun r6 => ((f_Mo_put8 n2 r4 r6.1 r6.2).bind (fun r7 => ((k_Mo_shortStack_51 r7).bind (fun o => some (.inr o))))))))))) else (if (z_bad n2 16) then none else ((f_Mo_stackSize q).bind (fun r9 => (z_eb (e_f_Mo_push (z_gM q 0 n2.toNatClampNeg) r9 q) (fun r10 => ((k_Mo_shortStack_51 r10).bind (fun o => some (.inr o)))))))))))))
theorem x_f_Mo_shortStack (x1 : Int32) (q : z_Sg) (hq : z_gI q 4 = -1) : z_po (f_Mo_shortStack x1 q) (z_X (fun o : z_Sg => o) (e_f_Mo_shortStack x1 q)) := by
  unfold f_Mo_shortStack e_f_Mo_shortStack
  refine X_p (R := fun _ => True) (fun _ _ => trivial) (fun r1 _ => ?_)
  refine X_n (fun n2 _ => ?_)
  refine X_i (fun _ => ?_) (fun _ => ?_)
  ·
    refine X_p (R := fun _ => True) (fun _ _ => trivial) (fun r4 _ => ?_)
    refine X_p (R := fun _ => True) (fun _ _ => trivial) (fun r5 _ => ?_)
    refine X_b (x_f_Mo_pop r5 q hq) (fun r6 h_r6 => ?_) (fun r6 h_r6 => ?_)
    rotate_left
    ·
      refine po_b (d_f_Mo_put8 r6.2 n2 r4 r6.1 r6.2 rfl) (fun r7 h_r7 => ?_)
      exact d_k_Mo_shortStack_51 r6.2 r7 h_r7
    refine X_p (d_f_Mo_put8 r6.2 n2 r4 r6.1 r6.2 rfl) (fun r7 k_r7 => ?_)
    have h_r7 : z_gI r7 4 = -1 := pn_a k_r7 h_r6
    exact X_t (d_k_Mo_shortStack_51 r7 r7 rfl) h_r7
  ·
    refine X_g (fun _ => ?_)
    refine X_p (R := fun _ => True) (fun _ _ => trivial) (fun r9 _ => ?_)
    refine X_b (x_f_Mo_push (z_gM q 0 n2.toNatClampNeg) r9 q hq) (fun r10 h_r10 => ?_) (fun r10 h_r10 => ?_)
    rotate_left
    ·
      exact d_k_Mo_shortStack_51 r10 r10 rfl
    exact X_t (d_k_Mo_shortStack_51 r10 r10 rfl) h_r10
set_option maxHeartbeats 4000000 in
set_option maxRecDepth 100000 in
def e_k_Mo_arithmetic_88 (x1 : Int32) (x3 : Int32) (t1 : Int32) (t2 : Int32) (q : z_Sg) : Option (Sum z_Dd z_Sg) :=
  (z_eb (e_f_Mo_e t1 t2 q) (fun r12 => ((f_Mo_g x3 r12.2).bind (fun r13 => ((f_Mo_reckon x1 r12.1 r13 x3 r12.2).bind (fun r14 => (if x1 = (7 : Int32) then ((k_Mo_arithmetic_121 r14.2).bind (fun o => some (.inr o))) else ((f_Mo_setE x3 r14.1 r14.2).bind (fun r16 => ((k_Mo_arithmetic_121 r16).bind (fun o => some (.inr o))))))))))))
theorem x_k_Mo_arithmetic_88 (x1 : Int32) (x3 : Int32) (t1 : Int32) (t2 : Int32) (q : z_Sg) (hq : z_gI q 4 = -1) : z_po (k_Mo_arithmetic_88 x1 x3 t1 t2 q) (z_X (fun o : z_Sg => o) (e_k_Mo_arithmetic_88 x1 x3 t1 t2 q)) := by
  unfold k_Mo_arithmetic_88 e_k_Mo_arithmetic_88
  refine X_b (x_f_Mo_e t1 t2 q hq) (fun r12 h_r12 => ?_) (fun r12 h_r12 => ?_)
  rotate_left
  ·
    refine po_b (R := fun _ => True) (fun _ _ => trivial) (fun r13 _ => ?_)
    refine po_b (d_f_Mo_reckon r12.2 x1 r12.1 r13 x3 r12.2 rfl) (fun r14 h_r14 => ?_)
    refine po_i (fun _ => ?_) (fun _ => ?_)
    ·
      exact d_k_Mo_arithmetic_121 r12.2 r14.2 h_r14
    ·
      refine po_b (d_f_Mo_setE r12.2 x3 r14.1 r14.2 h_r14) (fun r16 h_r16 => ?_)
      exact d_k_Mo_arithmetic_121 r12.2 r16 h_r16
  refine X_p (R := fun _ => True) (fun _ _ => trivial) (fun r13 _ => ?_)
  refine X_p (d_f_Mo_reckon r12.2 x1 r12.1 r13 x3 r12.2 rfl) (fun r14 k_r14 => ?_)
  have h_r14 : z_gI r14.2 4 = -1 := pn_a k_r14 h_r12
  refine X_i (fun _ => ?_) (fun _ => ?_)
  ·
    exact X_t (d_k_Mo_arithmetic_121 r14.2 r14.2 rfl) h_r14
  ·
    refine X_p (d_f_Mo_setE r14.2 x3 r14.1 r14.2 rfl) (fun r16 k_r16 => ?_)
    have h_r16 : z_gI r16 4 = -1 := pn_a k_r16 h_r14
    exact X_t (d_k_Mo_arithmetic_121 r16 r16 rfl) h_r16
set_option maxHeartbeats 4000000 in
set_option maxRecDepth 100000 in
def e_f_Mo_arithmetic (x1 : Int32) (x2 : Int32) (x3 : Int32) (q : z_Sg) : Option (Sum z_Dd z_Sg) :=
  (if x2 ≤ (5 : Int32) then (if x2 ≤ (3 : Int32) then (if (2 : Int32) ≤ x2 then (z_eb (e_f_Mo_takeOperand q) (fun r4 => ((f_Mo_g x3 r4).bind (fun r5 => (z_eb (e_f_Mo_e x3 (0 : Int32) r4) (fun r6 => ((f_Mo_reckon x1 r5 r6.1 x3 r6.2).bind (fun r7 => (if x1 = (7 : Int32) then ((k_Mo_arithmetic_160 r7.2).bind (fun o => some (.inr o))) else ((f_Mo_setG x3 r7.1 r7.2).bind (fun r9 => ((k_Mo_arithmetic_160 r9).bind (fun o => some (.inr o)))))))))))))) else (z_eb (e_f_Mo_takeOperand q) (fun r10 => (if x1 = (7 : Int32) then (e_k_Mo_arithmetic_88 x1 x3 x3 (0 : Int32) r10) else (e_k_Mo_arithmetic_88 x1 x3 x3 (1 : Int32) r10))))) else ((f_Mo_four x3 q).bind (fun r17 => (z_eb (e_f_Mo_number r17 q) (fun r18 => ((f_Mo_get8 (0 : Int32) x3 r18.2).bind (fun r19 => ((f_Mo_lowest r18.1 x3 r18.2).bind (fun r20 => ((f_Mo_reckon x1 r19 r20 x3 r18.2).bind (fun r21 => (if x1 = (7 : Int32) then ((k_Mo_arithmetic_63 r21.2).bind (fun o => some (.inr o))) else ((f_Mo_put8 (0 : Int32) x3 r21.1 r21.2).bind (fun r23 => ((k_Mo_arithmetic_63 r23).bind (fun o => some (.inr o))))))))))))))))) else (z_eb (e_f_Mo_refuse (6 : Int32) q) (fun r24 => ((k_Mo_arithmetic_160 r24).bind (fun o => some (.inr o))))))
theorem x_f_Mo_arithmetic (x1 : Int32) (x2 : Int32) (x3 : Int32) (q : z_Sg) (hq : z_gI q 4 = -1) : z_po (f_Mo_arithmetic x1 x2 x3 q) (z_X (fun o : z_Sg => o) (e_f_Mo_arithmetic x1 x2 x3 q)) := by
  unfold f_Mo_arithmetic e_f_Mo_arithmetic
  refine X_i (fun _ => ?_) (fun _ => ?_)
  ·
    refine X_i (fun _ => ?_) (fun _ => ?_)
    ·
      refine X_i (fun _ => ?_) (fun _ => ?_)
      ·
        refine X_b (x_f_Mo_takeOperand q hq) (fun r4 h_r4 => ?_) (fun r4 h_r4 => ?_)
        rotate_left
        ·
          refine po_b (R := fun _ => True) (fun _ _ => trivial) (fun r5 _ => ?_)
          refine po_b (d_f_Mo_e r4 x3 (0 : Int32) r4 rfl h_r4) (fun r6 h_r6 => ?_)
          refine po_b (d_f_Mo_reckon r4 x1 r5 r6.1 x3 r6.2 h_r6) (fun r7 h_r7 => ?_)
          refine po_i (fun _ => ?_) (fun _ => ?_)
          ·
            exact d_k_Mo_arithmetic_160 r4 r7.2 h_r7
          ·
            refine po_b (d_f_Mo_setG r4 x3 r7.1 r7.2 h_r7) (fun r9 h_r9 => ?_)
            exact d_k_Mo_arithmetic_160 r4 r9 h_r9
        refine X_p (R := fun _ => True) (fun _ _ => trivial) (fun r5 _ => ?_)
        refine X_b (x_f_Mo_e x3 (0 : Int32) r4 h_r4) (fun r6 h_r6 => ?_) (fun r6 h_r6 => ?_)
        rotate_left
        ·
          refine po_b (d_f_Mo_reckon r6.2 x1 r5 r6.1 x3 r6.2 rfl) (fun r7 h_r7 => ?_)
          refine po_i (fun _ => ?_) (fun _ => ?_)
          ·
            exact d_k_Mo_arithmetic_160 r6.2 r7.2 h_r7
          ·
            refine po_b (d_f_Mo_setG r6.2 x3 r7.1 r7.2 h_r7) (fun r9 h_r9 => ?_)
            exact d_k_Mo_arithmetic_160 r6.2 r9 h_r9
        refine X_p (d_f_Mo_reckon r6.2 x1 r5 r6.1 x3 r6.2 rfl) (fun r7 k_r7 => ?_)
        have h_r7 : z_gI r7.2 4 = -1 := pn_a k_r7 h_r6
        refine X_i (fun _ => ?_) (fun _ => ?_)
        ·
          exact X_t (d_k_Mo_arithmetic_160 r7.2 r7.2 rfl) h_r7
        ·
          refine X_p (d_f_Mo_setG r7.2 x3 r7.1 r7.2 rfl) (fun r9 k_r9 => ?_)
          have h_r9 : z_gI r9 4 = -1 := pn_a k_r9 h_r7
          exact X_t (d_k_Mo_arithmetic_160 r9 r9 rfl) h_r9
      ·
        refine X_b (x_f_Mo_takeOperand q hq) (fun r10 h_r10 => ?_) (fun r10 h_r10 => ?_)
        rotate_left
        ·
          refine po_i (fun _ => ?_) (fun _ => ?_)
          ·
            exact d_k_Mo_arithmetic_88 r10 x1 x3 x3 (0 : Int32) r10 rfl h_r10
          ·
            exact d_k_Mo_arithmetic_88 r10 x1 x3 x3 (1 : Int32) r10 rfl h_r10
        refine X_i (fun _ => ?_) (fun _ => ?_)
        ·
          exact x_k_Mo_arithmetic_88 x1 x3 x3 (0 : Int32) r10 h_r10
        ·
          exact x_k_Mo_arithmetic_88 x1 x3 x3 (1 : Int32) r10 h_r10
    ·
      refine X_p (R := fun _ => True) (fun _ _ => trivial) (fun r17 _ => ?_)
      refine X_b (x_f_Mo_number r17 q hq) (fun r18 h_r18 => ?_) (fun r18 h_r18 => ?_)
      rotate_left
      ·
        refine po_b (R := fun _ => True) (fun _ _ => trivial) (fun r19 _ => ?_)
        refine po_b (R := fun _ => True) (fun _ _ => trivial) (fun r20 _ => ?_)
        refine po_b (d_f_Mo_reckon r18.2 x1 r19 r20 x3 r18.2 rfl) (fun r21 h_r21 => ?_)
        refine po_i (fun _ => ?_) (fun _ => ?_)
        ·
          exact d_k_Mo_arithmetic_63 r18.2 r21.2 h_r21
        ·
          refine po_b (d_f_Mo_put8 r18.2 (0 : Int32) x3 r21.1 r21.2 h_r21) (fun r23 h_r23 => ?_)
          exact d_k_Mo_arithmetic_63 r18.2 r23 h_r23
      refine X_p (R := fun _ => True) (fun _ _ => trivial) (fun r19 _ => ?_)
      refine X_p (R := fun _ => True) (fun _ _ => trivial) (fun r20 _ => ?_)
      refine X_p (d_f_Mo_reckon r18.2 x1 r19 r20 x3 r18.2 rfl) (fun r21 k_r21 => ?_)
      have h_r21 : z_gI r21.2 4 = -1 := pn_a k_r21 h_r18
      refine X_i (fun _ => ?_) (fun _ => ?_)
      ·
        exact X_t (d_k_Mo_arithmetic_63 r21.2 r21.2 rfl) h_r21
      ·
        refine X_p (d_f_Mo_put8 r21.2 (0 : Int32) x3 r21.1 r21.2 rfl) (fun r23 k_r23 => ?_)
        have h_r23 : z_gI r23 4 = -1 := pn_a k_r23 h_r21
        exact X_t (d_k_Mo_arithmetic_63 r23 r23 rfl) h_r23
  ·
    refine X_b (x_f_Mo_refuse (6 : Int32) q hq) (fun r24 h_r24 => ?_) (fun r24 h_r24 => ?_)
    rotate_left
    ·
      exact d_k_Mo_arithmetic_160 r24 r24 rfl
    exact X_t (d_k_Mo_arithmetic_160 r24 r24 rfl) h_r24
set_option maxHeartbeats 4000000 in
set_option maxRecDepth 100000 in
def e_k_Mo_first_88 (x1 : Int32) (x2 : Int32) (q : z_Sg) : Option (Sum z_Dd z_Sg) :=
  (z_eb (e_f_Mo_group x1 x2 q) (fun r5 => ((k_Mo_first_415 r5).bind (fun o => some (.inr o)))))
theorem x_k_Mo_first_88 (x1 : Int32) (x2 : Int32) (q : z_Sg) (hq : z_gI q 4 = -1) : z_po (k_Mo_first_88 x1 x2 q) (z_X (fun o : z_Sg => o) (e_k_Mo_first_88 x1 x2 q)) := by
  unfold k_Mo_first_88 e_k_Mo_first_88
  refine X_b (x_f_Mo_group x1 x2 q hq) (fun r5 h_r5 => ?_) (fun r5 h_r5 => ?_)
  rotate_left
  ·
    exact d_k_Mo_first_415 r5 r5 rfl
  exact X_t (d_k_Mo_first_415 r5 r5 rfl) h_r5
set_option maxHeartbeats 4000000 in
set_option maxRecDepth 100000 in
def e_k_Mo_first_233 (x1 : Int32) (x2 : Int32) (q : z_Sg) : Option (Sum z_Dd z_Sg) :=
  (z_eb (e_f_Mo_shift x1 x2 q) (fun r13 => ((k_Mo_first_415 r13).bind (fun o => some (.inr o)))))
theorem x_k_Mo_first_233 (x1 : Int32) (x2 : Int32) (q : z_Sg) (hq : z_gI q 4 = -1) : z_po (k_Mo_first_233 x1 x2 q) (z_X (fun o : z_Sg => o) (e_k_Mo_first_233 x1 x2 q)) := by
  unfold k_Mo_first_233 e_k_Mo_first_233
  refine X_b (x_f_Mo_shift x1 x2 q hq) (fun r13 h_r13 => ?_) (fun r13 h_r13 => ?_)
  rotate_left
  ·
    exact d_k_Mo_first_415 r13 r13 rfl
  exact X_t (d_k_Mo_first_415 r13 r13 rfl) h_r13
set_option maxHeartbeats 4000000 in
set_option maxRecDepth 100000 in
def e_k_Mo_first_379 (x2 : Int32) (q : z_Sg) : Option (Sum z_Dd z_Sg) :=
  (z_eb (e_f_Mo_unary x2 q) (fun r32 => ((k_Mo_first_415 r32).bind (fun o => some (.inr o)))))
theorem x_k_Mo_first_379 (x2 : Int32) (q : z_Sg) (hq : z_gI q 4 = -1) : z_po (k_Mo_first_379 x2 q) (z_X (fun o : z_Sg => o) (e_k_Mo_first_379 x2 q)) := by
  unfold k_Mo_first_379 e_k_Mo_first_379
  refine X_b (x_f_Mo_unary x2 q hq) (fun r32 h_r32 => ?_) (fun r32 h_r32 => ?_)
  rotate_left
  ·
    exact d_k_Mo_first_415 r32 r32 rfl
  exact X_t (d_k_Mo_first_415 r32 r32 rfl) h_r32
set_option maxHeartbeats 4000000 in
set_option maxRecDepth 100000 in
def e_k_Mo_first_401 (x2 : Int32) (q : z_Sg) : Option (Sum z_Dd z_Sg) :=
  (z_eb (e_f_Mo_more x2 q) (fun r35 => ((k_Mo_first_415 r35).bind (fun o => some (.inr o)))))
theorem x_k_Mo_first_401 (x2 : Int32) (q : z_Sg) (hq : z_gI q 4 = -1) : z_po (k_Mo_first_401 x2 q) (z_X (fun o : z_Sg => o) (e_k_Mo_first_401 x2 q)) := by
  unfold k_Mo_first_401 e_k_Mo_first_401
  refine X_b (x_f_Mo_more x2 q hq) (fun r35 h_r35 => ?_) (fun r35 h_r35 => ?_)
  rotate_left
  ·
    exact d_k_Mo_first_415 r35 r35 rfl
  exact X_t (d_k_Mo_first_415 r35 r35 rfl) h_r35
set_option maxHeartbeats 4000000 in
set_option maxRecDepth 100000 in
def e_k_Mo_first_264 (x1 : Int32) (x2 : Int32) (q : z_Sg) : Option (Sum z_Dd z_Sg) :=
  (if x1 = (245 : Int32) then ((k_Mo_first_285 x1 q).bind (fun o => some (.inr o))) else (if x1 = (248 : Int32) then ((k_Mo_first_285 x1 q).bind (fun o => some (.inr o))) else (if x1 = (249 : Int32) then ((k_Mo_first_285 x1 q).bind (fun o => some (.inr o))) else (if x1 = (252 : Int32) then ((k_Mo_first_344 x1 q).bind (fun o => some (.inr o))) else (if x1 = (253 : Int32) then ((k_Mo_first_344 x1 q).bind (fun o => some (.inr o))) else (if x1 = (246 : Int32) then (e_k_Mo_first_379 x2 q) else (if x1 = (247 : Int32) then (e_k_Mo_first_379 x2 q) else (if x1 = (254 : Int32) then (e_k_Mo_first_401 x2 q) else (if x1 = (255 : Int32) then (e_k_Mo_first_401 x2 q) else (z_eb (e_f_Mo_others x1 x2 q) (fun r37 => ((k_Mo_first_415 r37).bind (fun o => some (.inr o))))))))))))))
theorem x_k_Mo_first_264 (x1 : Int32) (x2 : Int32) (q : z_Sg) (hq : z_gI q 4 = -1) : z_po (k_Mo_first_264 x1 x2 q) (z_X (fun o : z_Sg => o) (e_k_Mo_first_264 x1 x2 q)) := by
  unfold k_Mo_first_264 e_k_Mo_first_264
  refine X_i (fun _ => ?_) (fun _ => ?_)
  ·
    exact X_t (d_k_Mo_first_285 q x1 q rfl) hq
  ·
    refine X_i (fun _ => ?_) (fun _ => ?_)
    ·
      exact X_t (d_k_Mo_first_285 q x1 q rfl) hq
    ·
      refine X_i (fun _ => ?_) (fun _ => ?_)
      ·
        exact X_t (d_k_Mo_first_285 q x1 q rfl) hq
      ·
        refine X_i (fun _ => ?_) (fun _ => ?_)
        ·
          exact X_t (d_k_Mo_first_344 q x1 q rfl) hq
        ·
          refine X_i (fun _ => ?_) (fun _ => ?_)
          ·
            exact X_t (d_k_Mo_first_344 q x1 q rfl) hq
          ·
            refine X_i (fun _ => ?_) (fun _ => ?_)
            ·
              exact x_k_Mo_first_379 x2 q hq
            ·
              refine X_i (fun _ => ?_) (fun _ => ?_)
              ·
                exact x_k_Mo_first_379 x2 q hq
              ·
                refine X_i (fun _ => ?_) (fun _ => ?_)
                ·
                  exact x_k_Mo_first_401 x2 q hq
                ·
                  refine X_i (fun _ => ?_) (fun _ => ?_)
                  ·
                    exact x_k_Mo_first_401 x2 q hq
                  ·
                    refine X_b (x_f_Mo_others x1 x2 q hq) (fun r37 h_r37 => ?_) (fun r37 h_r37 => ?_)
                    rotate_left
                    ·
                      exact d_k_Mo_first_415 r37 r37 rfl
                    exact X_t (d_k_Mo_first_415 r37 r37 rfl) h_r37
set_option maxHeartbeats 4000000 in
set_option maxRecDepth 100000 in
def e_k_Mo_first_242 (x1 : Int32) (x2 : Int32) (q : z_Sg) : Option (Sum z_Dd z_Sg) :=
  (if x1 < (224 : Int32) then (e_k_Mo_first_264 x1 x2 q) else (if (227 : Int32) < x1 then (e_k_Mo_first_264 x1 x2 q) else (z_eb (e_f_Mo_loop x1 q) (fun r39 => ((k_Mo_first_415 r39).bind (fun o => some (.inr o)))))))
theorem x_k_Mo_first_242 (x1 : Int32) (x2 : Int32) (q : z_Sg) (hq : z_gI q 4 = -1) : z_po (k_Mo_first_242 x1 x2 q) (z_X (fun o : z_Sg => o) (e_k_Mo_first_242 x1 x2 q)) := by
  unfold k_Mo_first_242 e_k_Mo_first_242
  refine X_i (fun _ => ?_) (fun _ => ?_)
  ·
    exact x_k_Mo_first_264 x1 x2 q hq
  ·
    refine X_i (fun _ => ?_) (fun _ => ?_)
    ·
      exact x_k_Mo_first_264 x1 x2 q hq
    ·
      refine X_b (x_f_Mo_loop x1 q hq) (fun r39 h_r39 => ?_) (fun r39 h_r39 => ?_)
      rotate_left
      ·
        exact d_k_Mo_first_415 r39 r39 rfl
      exact X_t (d_k_Mo_first_415 r39 r39 rfl) h_r39
set_option maxHeartbeats 4000000 in
set_option maxRecDepth 100000 in
def e_k_Mo_first_205 (x1 : Int32) (x2 : Int32) (q : z_Sg) : Option (Sum z_Dd z_Sg) :=
  (if x1 = (192 : Int32) then (e_k_Mo_first_233 x1 x2 q) else (if x1 = (193 : Int32) then (e_k_Mo_first_233 x1 x2 q) else (if x1 < (208 : Int32) then (e_k_Mo_first_242 x1 x2 q) else (if (211 : Int32) < x1 then (e_k_Mo_first_242 x1 x2 q) else (e_k_Mo_first_233 x1 x2 q)))))
theorem x_k_Mo_first_205 (x1 : Int32) (x2 : Int32) (q : z_Sg) (hq : z_gI q 4 = -1) : z_po (k_Mo_first_205 x1 x2 q) (z_X (fun o : z_Sg => o) (e_k_Mo_first_205 x1 x2 q)) := by
  unfold k_Mo_first_205 e_k_Mo_first_205
  refine X_i (fun _ => ?_) (fun _ => ?_)
  ·
    exact x_k_Mo_first_233 x1 x2 q hq
  ·
    refine X_i (fun _ => ?_) (fun _ => ?_)
    ·
      exact x_k_Mo_first_233 x1 x2 q hq
    ·
      refine X_i (fun _ => ?_) (fun _ => ?_)
      ·
        exact x_k_Mo_first_242 x1 x2 q hq
      ·
        refine X_i (fun _ => ?_) (fun _ => ?_)
        ·
          exact x_k_Mo_first_242 x1 x2 q hq
        ·
          exact x_k_Mo_first_233 x1 x2 q hq
set_option maxHeartbeats 4000000 in
set_option maxRecDepth 100000 in
def e_k_Mo_first_183 (x1 : Int32) (x2 : Int32) (q : z_Sg) : Option (Sum z_Dd z_Sg) :=
  (if x1 < (176 : Int32) then (e_k_Mo_first_205 x1 x2 q) else (if (191 : Int32) < x1 then (e_k_Mo_first_205 x1 x2 q) else (z_eb (e_f_Mo_immediate x1 q) (fun r42 => ((k_Mo_first_415 r42).bind (fun o => some (.inr o)))))))
theorem x_k_Mo_first_183 (x1 : Int32) (x2 : Int32) (q : z_Sg) (hq : z_gI q 4 = -1) : z_po (k_Mo_first_183 x1 x2 q) (z_X (fun o : z_Sg => o) (e_k_Mo_first_183 x1 x2 q)) := by
  unfold k_Mo_first_183 e_k_Mo_first_183
  refine X_i (fun _ => ?_) (fun _ => ?_)
  ·
    exact x_k_Mo_first_205 x1 x2 q hq
  ·
    refine X_i (fun _ => ?_) (fun _ => ?_)
    ·
      exact x_k_Mo_first_205 x1 x2 q hq
    ·
      refine X_b (x_f_Mo_immediate x1 q hq) (fun r42 h_r42 => ?_) (fun r42 h_r42 => ?_)
      rotate_left
      ·
        exact d_k_Mo_first_415 r42 r42 rfl
      exact X_t (d_k_Mo_first_415 r42 r42 rfl) h_r42
set_option maxHeartbeats 4000000 in
set_option maxRecDepth 100000 in
def e_k_Mo_first_142 (x1 : Int32) (x2 : Int32) (q : z_Sg) : Option (Sum z_Dd z_Sg) :=
  (if x1 < (164 : Int32) then (e_k_Mo_first_183 x1 x2 q) else (if (175 : Int32) < x1 then (e_k_Mo_first_183 x1 x2 q) else (if x1 = (168 : Int32) then (e_k_Mo_first_183 x1 x2 q) else (if x1 = (169 : Int32) then (e_k_Mo_first_183 x1 x2 q) else (z_eb (e_f_Mo_string (x1 &&& (254 : Int32)) x2 q) (fun r46 => ((k_Mo_first_415 r46).bind (fun o => some (.inr o)))))))))
theorem x_k_Mo_first_142 (x1 : Int32) (x2 : Int32) (q : z_Sg) (hq : z_gI q 4 = -1) : z_po (k_Mo_first_142 x1 x2 q) (z_X (fun o : z_Sg => o) (e_k_Mo_first_142 x1 x2 q)) := by
  unfold k_Mo_first_142 e_k_Mo_first_142
  refine X_i (fun _ => ?_) (fun _ => ?_)
  ·
    exact x_k_Mo_first_183 x1 x2 q hq
  ·
    refine X_i (fun _ => ?_) (fun _ => ?_)
    ·
      exact x_k_Mo_first_183 x1 x2 q hq
    ·
      refine X_i (fun _ => ?_) (fun _ => ?_)
      ·
        exact x_k_Mo_first_183 x1 x2 q hq
      ·
        refine X_i (fun _ => ?_) (fun _ => ?_)
        ·
          exact x_k_Mo_first_183 x1 x2 q hq
        ·
          refine X_b (x_f_Mo_string (x1 &&& (254 : Int32)) x2 q hq) (fun r46 h_r46 => ?_) (fun r46 h_r46 => ?_)
          rotate_left
          ·
            exact d_k_Mo_first_415 r46 r46 rfl
          exact X_t (d_k_Mo_first_415 r46 r46 rfl) h_r46
set_option maxHeartbeats 4000000 in
set_option maxRecDepth 100000 in
def e_k_Mo_first_120 (x1 : Int32) (x2 : Int32) (q : z_Sg) : Option (Sum z_Dd z_Sg) :=
  (if x1 < (144 : Int32) then (e_k_Mo_first_142 x1 x2 q) else (if (153 : Int32) < x1 then (e_k_Mo_first_142 x1 x2 q) else ((f_Mo_turn x1 q).bind (fun r48 => ((k_Mo_first_415 r48).bind (fun o => some (.inr o)))))))
theorem x_k_Mo_first_120 (x1 : Int32) (x2 : Int32) (q : z_Sg) (hq : z_gI q 4 = -1) : z_po (k_Mo_first_120 x1 x2 q) (z_X (fun o : z_Sg => o) (e_k_Mo_first_120 x1 x2 q)) := by
  unfold k_Mo_first_120 e_k_Mo_first_120
  refine X_i (fun _ => ?_) (fun _ => ?_)
  ·
    exact x_k_Mo_first_142 x1 x2 q hq
  ·
    refine X_i (fun _ => ?_) (fun _ => ?_)
    ·
      exact x_k_Mo_first_142 x1 x2 q hq
    ·
      refine X_p (d_f_Mo_turn q x1 q rfl) (fun r48 k_r48 => ?_)
      have h_r48 : z_gI r48 4 = -1 := pn_a k_r48 hq
      exact X_t (d_k_Mo_first_415 r48 r48 rfl) h_r48
set_option maxHeartbeats 4000000 in
set_option maxRecDepth 100000 in
def e_k_Mo_first_67 (x1 : Int32) (x2 : Int32) (q : z_Sg) : Option (Sum z_Dd z_Sg) :=
  (if x1 = (128 : Int32) then (e_k_Mo_first_88 x1 x2 q) else (if x1 = (129 : Int32) then (e_k_Mo_first_88 x1 x2 q) else (if x1 = (131 : Int32) then (e_k_Mo_first_88 x1 x2 q) else (if x1 < (132 : Int32) then (e_k_Mo_first_120 x1 x2 q) else (if (139 : Int32) < x1 then (e_k_Mo_first_120 x1 x2 q) else (z_eb (e_f_Mo_move x1 x2 q) (fun r50 => ((k_Mo_first_415 r50).bind (fun o => some (.inr o))))))))))
theorem x_k_Mo_first_67 (x1 : Int32) (x2 : Int32) (q : z_Sg) (hq : z_gI q 4 = -1) : z_po (k_Mo_first_67 x1 x2 q) (z_X (fun o : z_Sg => o) (e_k_Mo_first_67 x1 x2 q)) := by
  unfold k_Mo_first_67 e_k_Mo_first_67
  refine X_i (fun _ => ?_) (fun _ => ?_)
  ·
    exact x_k_Mo_first_88 x1 x2 q hq
  ·
    refine X_i (fun _ => ?_) (fun _ => ?_)
    ·
      exact x_k_Mo_first_88 x1 x2 q hq
    ·
      refine X_i (fun _ => ?_) (fun _ => ?_)
      ·
        exact x_k_Mo_first_88 x1 x2 q hq
      ·
        refine X_i (fun _ => ?_) (fun _ => ?_)
        ·
          exact x_k_Mo_first_120 x1 x2 q hq
        ·
          refine X_i (fun _ => ?_) (fun _ => ?_)
          ·
            exact x_k_Mo_first_120 x1 x2 q hq
          ·
            refine X_b (x_f_Mo_move x1 x2 q hq) (fun r50 h_r50 => ?_) (fun r50 h_r50 => ?_)
            rotate_left
            ·
              exact d_k_Mo_first_415 r50 r50 rfl
            exact X_t (d_k_Mo_first_415 r50 r50 rfl) h_r50
set_option maxHeartbeats 4000000 in
set_option maxRecDepth 100000 in
def e_k_Mo_first_42 (x1 : Int32) (x2 : Int32) (q : z_Sg) : Option (Sum z_Dd z_Sg) :=
  (if x1 < (112 : Int32) then (e_k_Mo_first_67 x1 x2 q) else (if (127 : Int32) < x1 then (e_k_Mo_first_67 x1 x2 q) else ((f_Mo_holds x1 q).bind (fun r52 => (z_eb (e_f_Mo_branch r52 (1 : Int32) q) (fun r53 => ((k_Mo_first_415 r53).bind (fun o => some (.inr o)))))))))
theorem x_k_Mo_first_42 (x1 : Int32) (x2 : Int32) (q : z_Sg) (hq : z_gI q 4 = -1) : z_po (k_Mo_first_42 x1 x2 q) (z_X (fun o : z_Sg => o) (e_k_Mo_first_42 x1 x2 q)) := by
  unfold k_Mo_first_42 e_k_Mo_first_42
  refine X_i (fun _ => ?_) (fun _ => ?_)
  ·
    exact x_k_Mo_first_67 x1 x2 q hq
  ·
    refine X_i (fun _ => ?_) (fun _ => ?_)
    ·
      exact x_k_Mo_first_67 x1 x2 q hq
    ·
      refine X_p (R := fun _ => True) (fun _ _ => trivial) (fun r52 _ => ?_)
      refine X_b (x_f_Mo_branch r52 (1 : Int32) q hq) (fun r53 h_r53 => ?_) (fun r53 h_r53 => ?_)
      rotate_left
      ·
        exact d_k_Mo_first_415 r53 r53 rfl
      exact X_t (d_k_Mo_first_415 r53 r53 rfl) h_r53
set_option maxHeartbeats 4000000 in
set_option maxRecDepth 100000 in
def e_f_Mo_first (x1 : Int32) (x2 : Int32) (q : z_Sg) : Option (Sum z_Dd z_Sg) :=
  (if (64 : Int32) ≤ x1 then (if x1 < (80 : Int32) then (e_k_Mo_first_42 x1 x2 q) else (if (95 : Int32) < x1 then (e_k_Mo_first_42 x1 x2 q) else (z_eb (e_f_Mo_shortStack x1 q) (fun r55 => ((k_Mo_first_415 r55).bind (fun o => some (.inr o))))))) else (z_eb (e_f_Mo_arithmetic (x1 / (8 : Int32)) (x1 - ((x1 / (8 : Int32)) * (8 : Int32))) x2 q) (fun r56 => ((k_Mo_first_415 r56).bind (fun o => some (.inr o))))))
theorem x_f_Mo_first (x1 : Int32) (x2 : Int32) (q : z_Sg) (hq : z_gI q 4 = -1) : z_po (f_Mo_first x1 x2 q) (z_X (fun o : z_Sg => o) (e_f_Mo_first x1 x2 q)) := by
  unfold f_Mo_first e_f_Mo_first
  refine X_i (fun _ => ?_) (fun _ => ?_)
  ·
    refine X_i (fun _ => ?_) (fun _ => ?_)
    ·
      exact x_k_Mo_first_42 x1 x2 q hq
    ·
      refine X_i (fun _ => ?_) (fun _ => ?_)
      ·
        exact x_k_Mo_first_42 x1 x2 q hq
      ·
        refine X_b (x_f_Mo_shortStack x1 q hq) (fun r55 h_r55 => ?_) (fun r55 h_r55 => ?_)
        rotate_left
        ·
          exact d_k_Mo_first_415 r55 r55 rfl
        exact X_t (d_k_Mo_first_415 r55 r55 rfl) h_r55
  ·
    refine X_b (x_f_Mo_arithmetic (x1 / (8 : Int32)) (x1 - ((x1 / (8 : Int32)) * (8 : Int32))) x2 q hq) (fun r56 h_r56 => ?_) (fun r56 h_r56 => ?_)
    rotate_left
    ·
      exact d_k_Mo_first_415 r56 r56 rfl
    exact X_t (d_k_Mo_first_415 r56 r56 rfl) h_r56
set_option maxHeartbeats 4000000 in
set_option maxRecDepth 100000 in
def e_k_Mo_system_81 (q : z_Sg) : Option (Sum z_Dd z_Sg) :=
  (z_eb (e_f_Mo_refuse (13 : Int32) q) (fun r3 => ((k_Mo_system_116 r3).bind (fun o => some (.inr o)))))
theorem x_k_Mo_system_81 (q : z_Sg) (hq : z_gI q 4 = -1) : z_po (k_Mo_system_81 q) (z_X (fun o : z_Sg => o) (e_k_Mo_system_81 q)) := by
  unfold k_Mo_system_81 e_k_Mo_system_81
  refine X_b (x_f_Mo_refuse (13 : Int32) q hq) (fun r3 h_r3 => ?_) (fun r3 h_r3 => ?_)
  rotate_left
  ·
    exact d_k_Mo_system_116 r3 r3 rfl
  exact X_t (d_k_Mo_system_116 r3 r3 rfl) h_r3
set_option maxHeartbeats 4000000 in
set_option maxRecDepth 100000 in
def e_f_Mo_system (x1 : Int32) (q : z_Sg) : Option (Sum z_Dd z_Sg) :=
  (if x1 = 0 then (if (z_gI q 2) = 0 then (if (z_bad (1 : Int32) 16) then none else ((f_Mo_isWrong (z_gM q 0 (1 : Int32).toNatClampNeg) q).bind (fun r5 => (if r5 = 0 then (if (z_bad (1 : Int32) 16) then none else (z_nm (z_sL q 7 (z_gM q 0 (1 : Int32).toNatClampNeg)) (fun q8 => (if (z_bad (11 : Int32) 16) then none else ((f_Mo_setFlags (z_gM q8 0 (11 : Int32).toNatClampNeg) q8).bind (fun r10 => (z_nm (z_sI r10 2 (1 : Int32)) (fun q11 => ((k_Mo_system_116 q11).bind (fun o => some (.inr o))))))))))) else (e_k_Mo_system_81 q))))) else (e_k_Mo_system_81 q)) else (if (z_bad (1 : Int32) 16) then none else (z_nm (z_sM q 0 (1 : Int32).toNatClampNeg (z_gL q 7)) (fun q13 => ((f_Mo_flags q13).bind (fun r14 => (if (z_bad (11 : Int32) 16) then none else (z_nm (z_sM q13 0 (11 : Int32).toNatClampNeg (r14 ||| (2 : Int64))) (fun q16 => (z_nm (z_sL q16 7 (z_gL q16 2)) (fun q17 => ((f_Mo_flags q17).bind (fun r18 => ((f_Mo_setFlags (r18 &&& ((z_gL q17 3) ^^^ (-1 : Int64))) q17).bind (fun r19 => (z_nm (z_sI r19 2 (0 : Int32)) (fun q20 => ((k_Mo_system_116 q20).bind (fun o => some (.inr o))))))))))))))))))))
theorem x_f_Mo_system (x1 : Int32) (q : z_Sg) (hq : z_gI q 4 = -1) : z_po (f_Mo_system x1 q) (z_X (fun o : z_Sg => o) (e_f_Mo_system x1 q)) := by
  unfold f_Mo_system e_f_Mo_system
  refine X_i (fun _ => ?_) (fun _ => ?_)
  ·
    refine X_i (fun _ => ?_) (fun _ => ?_)
    ·
      refine X_g (fun _ => ?_)
      refine X_p (R := fun _ => True) (fun _ _ => trivial) (fun r5 _ => ?_)
      refine X_i (fun _ => ?_) (fun _ => ?_)
      ·
        refine X_g (fun _ => ?_)
        refine X_n (fun q8 e_q8 => ?_)
        have h_q8 : z_gI q8 4 = -1 := by rw [e_q8]; exact hq
        refine X_g (fun _ => ?_)
        refine X_p (d_f_Mo_setFlags q8 (z_gM q8 0 (11 : Int32).toNatClampNeg) q8 rfl) (fun r10 k_r10 => ?_)
        have h_r10 : z_gI r10 4 = -1 := pn_a k_r10 h_q8
        refine X_n (fun q11 e_q11 => ?_)
        have h_q11 : z_gI q11 4 = -1 := by rw [e_q11]; exact h_r10
        exact X_t (d_k_Mo_system_116 q11 q11 rfl) h_q11
      ·
        exact x_k_Mo_system_81 q hq
    ·
      exact x_k_Mo_system_81 q hq
  ·
    refine X_g (fun _ => ?_)
    refine X_n (fun q13 e_q13 => ?_)
    have h_q13 : z_gI q13 4 = -1 := by rw [e_q13]; exact hq
    refine X_p (R := fun _ => True) (fun _ _ => trivial) (fun r14 _ => ?_)
    refine X_g (fun _ => ?_)
    refine X_n (fun q16 e_q16 => ?_)
    have h_q16 : z_gI q16 4 = -1 := by rw [e_q16]; exact h_q13
    refine X_n (fun q17 e_q17 => ?_)
    have h_q17 : z_gI q17 4 = -1 := by rw [e_q17]; exact h_q16
    refine X_p (R := fun _ => True) (fun _ _ => trivial) (fun r18 _ => ?_)
    refine X_p (d_f_Mo_setFlags q17 (r18 &&& ((z_gL q17 3) ^^^ (-1 : Int64))) q17 rfl) (fun r19 k_r19 => ?_)
    have h_r19 : z_gI r19 4 = -1 := pn_a k_r19 h_q17
    refine X_n (fun q20 e_q20 => ?_)
    have h_q20 : z_gI q20 4 = -1 := by rw [e_q20]; exact h_r19
    exact X_t (d_k_Mo_system_116 q20 q20 rfl) h_q20
set_option maxHeartbeats 4000000 in
set_option maxRecDepth 100000 in
def e_k_Mo_bit_153 (x2 : Int32) (x5 : Int32) (x6 : Int32) (t1 : Int32) (t2 : Int32) (q : z_Sg) : Option (Sum z_Dd z_Sg) :=
  (z_eb (e_f_Mo_e t1 t2 q) (fun r14 => (if ((z_lushr r14.1 x6) &&& (1 : Int64)) = (1 : Int64) then ((k_Mo_bit_180 x2 x5 x6 r14.1 (0 : Int32) (1 : Int32) r14.2).bind (fun o => some (.inr o))) else ((k_Mo_bit_180 x2 x5 x6 r14.1 (0 : Int32) (0 : Int32) r14.2).bind (fun o => some (.inr o))))))
theorem x_k_Mo_bit_153 (x2 : Int32) (x5 : Int32) (x6 : Int32) (t1 : Int32) (t2 : Int32) (q : z_Sg) (hq : z_gI q 4 = -1) : z_po (k_Mo_bit_153 x2 x5 x6 t1 t2 q) (z_X (fun o : z_Sg => o) (e_k_Mo_bit_153 x2 x5 x6 t1 t2 q)) := by
  unfold k_Mo_bit_153 e_k_Mo_bit_153
  refine X_b (x_f_Mo_e t1 t2 q hq) (fun r14 h_r14 => ?_) (fun r14 h_r14 => ?_)
  rotate_left
  ·
    refine po_i (fun _ => ?_) (fun _ => ?_)
    ·
      exact d_k_Mo_bit_180 r14.2 x2 x5 x6 r14.1 (0 : Int32) (1 : Int32) r14.2 rfl
    ·
      exact d_k_Mo_bit_180 r14.2 x2 x5 x6 r14.1 (0 : Int32) (0 : Int32) r14.2 rfl
  refine X_i (fun _ => ?_) (fun _ => ?_)
  ·
    exact X_t (d_k_Mo_bit_180 r14.2 x2 x5 x6 r14.1 (0 : Int32) (1 : Int32) r14.2 rfl) h_r14
  ·
    exact X_t (d_k_Mo_bit_180 r14.2 x2 x5 x6 r14.1 (0 : Int32) (0 : Int32) r14.2 rfl) h_r14
set_option maxHeartbeats 4000000 in
set_option maxRecDepth 100000 in
def e_k_Mo_bit_141 (x2 : Int32) (x5 : Int32) (x6 : Int32) (q : z_Sg) : Option (Sum z_Dd z_Sg) :=
  (if x5 = 0 then (e_k_Mo_bit_153 x2 x5 x6 x2 (0 : Int32) q) else (e_k_Mo_bit_153 x2 x5 x6 x2 (1 : Int32) q))
theorem x_k_Mo_bit_141 (x2 : Int32) (x5 : Int32) (x6 : Int32) (q : z_Sg) (hq : z_gI q 4 = -1) : z_po (k_Mo_bit_141 x2 x5 x6 q) (z_X (fun o : z_Sg => o) (e_k_Mo_bit_141 x2 x5 x6 q)) := by
  unfold k_Mo_bit_141 e_k_Mo_bit_141
  refine X_i (fun _ => ?_) (fun _ => ?_)
  ·
    exact x_k_Mo_bit_153 x2 x5 x6 x2 (0 : Int32) q hq
  ·
    exact x_k_Mo_bit_153 x2 x5 x6 x2 (1 : Int32) q hq
set_option maxHeartbeats 4000000 in
set_option maxRecDepth 100000 in
def e_k_Mo_bit_97 (x1 : Int32) (x2 : Int32) (x3 : Int64) (t0 : Int32) (q : z_Sg) : Option (Sum z_Dd z_Sg) :=
  ((f_Ma_floorModM x3 ((8 : Int64) * x2.toInt64) q).bind (fun r10 => (z_nm r10.toInt32 (fun n11 => (if x1 = (186 : Int32) then (e_k_Mo_bit_141 x2 t0 n11 q) else ((f_Ma_floorDivM x3 ((8 : Int64) * x2.toInt64) q).bind (fun r29 => (z_nm (z_sL q 6 ((z_gL q 6) + (x2.toInt64 * r29))) (fun q30 => (e_k_Mo_bit_141 x2 t0 n11 q30))))))))))
theorem x_k_Mo_bit_97 (x1 : Int32) (x2 : Int32) (x3 : Int64) (t0 : Int32) (q : z_Sg) (hq : z_gI q 4 = -1) : z_po (k_Mo_bit_97 x1 x2 x3 t0 q) (z_X (fun o : z_Sg => o) (e_k_Mo_bit_97 x1 x2 x3 t0 q)) := by
  unfold k_Mo_bit_97 e_k_Mo_bit_97
  refine X_p (R := fun _ => True) (fun _ _ => trivial) (fun r10 _ => ?_)
  refine X_n (fun n11 _ => ?_)
  refine X_i (fun _ => ?_) (fun _ => ?_)
  ·
    exact x_k_Mo_bit_141 x2 t0 n11 q hq
  ·
    refine X_p (R := fun _ => True) (fun _ _ => trivial) (fun r29 _ => ?_)
    refine X_n (fun q30 e_q30 => ?_)
    have h_q30 : z_gI q30 4 = -1 := by rw [e_q30]; exact hq
    exact x_k_Mo_bit_141 x2 t0 n11 q30 h_q30
set_option maxHeartbeats 4000000 in
set_option maxRecDepth 100000 in
def e_k_Mo_bit_58 (x1 : Int32) (x2 : Int32) (t0 : Int64) (q : z_Sg) : Option (Sum z_Dd z_Sg) :=
  (z_nm (z_sL q 7 ((z_gL q 0) + (z_gI q 6).toInt64)) (fun q8 => (if x1 = (186 : Int32) then (e_k_Mo_bit_97 x1 x2 t0 ((z_gI q8 8) - (4 : Int32)) q8) else (e_k_Mo_bit_97 x1 x2 t0 ((x1 - (163 : Int32)) / (8 : Int32)) q8))))
theorem x_k_Mo_bit_58 (x1 : Int32) (x2 : Int32) (t0 : Int64) (q : z_Sg) (hq : z_gI q 4 = -1) : z_po (k_Mo_bit_58 x1 x2 t0 q) (z_X (fun o : z_Sg => o) (e_k_Mo_bit_58 x1 x2 t0 q)) := by
  unfold k_Mo_bit_58 e_k_Mo_bit_58
  refine X_n (fun q8 e_q8 => ?_)
  have h_q8 : z_gI q8 4 = -1 := by rw [e_q8]; exact hq
  refine X_i (fun _ => ?_) (fun _ => ?_)
  ·
    exact x_k_Mo_bit_97 x1 x2 t0 ((z_gI q8 8) - (4 : Int32)) q8 h_q8
  ·
    exact x_k_Mo_bit_97 x1 x2 t0 ((x1 - (163 : Int32)) / (8 : Int32)) q8 h_q8
set_option maxHeartbeats 4000000 in
set_option maxRecDepth 100000 in
def e_k_Mo_bit_30 (x1 : Int32) (x2 : Int32) (q : z_Sg) : Option (Sum z_Dd z_Sg) :=
  (z_eb (e_f_Mo_takePlace q) (fun r4 => (if x1 = (186 : Int32) then (z_eb (e_f_Mo_fetch r4) (fun r31 => (e_k_Mo_bit_58 x1 x2 r31.1.toInt64 r31.2))) else ((f_Mo_g x2 r4).bind (fun r6 => ((f_Mo_extended r6 x2 r4).bind (fun r7 => (e_k_Mo_bit_58 x1 x2 r7 r4))))))))
theorem x_k_Mo_bit_30 (x1 : Int32) (x2 : Int32) (q : z_Sg) (hq : z_gI q 4 = -1) : z_po (k_Mo_bit_30 x1 x2 q) (z_X (fun o : z_Sg => o) (e_k_Mo_bit_30 x1 x2 q)) := by
  unfold k_Mo_bit_30 e_k_Mo_bit_30
  refine X_b (x_f_Mo_takePlace q hq) (fun r4 h_r4 => ?_) (fun r4 h_r4 => ?_)
  rotate_left
  ·
    refine po_i (fun _ => ?_) (fun _ => ?_)
    ·
      refine po_b (d_f_Mo_fetch r4 r4 rfl h_r4) (fun r31 h_r31 => ?_)
      exact d_k_Mo_bit_58 r4 x1 x2 r31.1.toInt64 r31.2 h_r31 h_r4
    ·
      refine po_b (R := fun _ => True) (fun _ _ => trivial) (fun r6 _ => ?_)
      refine po_b (R := fun _ => True) (fun _ _ => trivial) (fun r7 _ => ?_)
      exact d_k_Mo_bit_58 r4 x1 x2 r7 r4 rfl h_r4
  refine X_i (fun _ => ?_) (fun _ => ?_)
  ·
    refine X_b (x_f_Mo_fetch r4 h_r4) (fun r31 h_r31 => ?_) (fun r31 h_r31 => ?_)
    rotate_left
    ·
      exact d_k_Mo_bit_58 r31.2 x1 x2 r31.1.toInt64 r31.2 rfl h_r31
    exact x_k_Mo_bit_58 x1 x2 r31.1.toInt64 r31.2 h_r31
  ·
    refine X_p (R := fun _ => True) (fun _ _ => trivial) (fun r6 _ => ?_)
    refine X_p (R := fun _ => True) (fun _ _ => trivial) (fun r7 _ => ?_)
    exact x_k_Mo_bit_58 x1 x2 r7 r4 h_r4
set_option maxHeartbeats 4000000 in
set_option maxRecDepth 100000 in
def e_f_Mo_bit (x1 : Int32) (q : z_Sg) : Option (Sum z_Dd z_Sg) :=
  ((f_Mo_wide q).bind (fun r1 => (z_eb (e_f_Mo_takeMod q) (fun r2 => (if x1 = (186 : Int32) then (if (4 : Int32) ≤ (z_gI r2 8) then (e_k_Mo_bit_30 x1 r1 r2) else (z_eb (e_f_Mo_refuse (6 : Int32) r2) (fun r33 => (e_k_Mo_bit_30 x1 r1 r33)))) else (e_k_Mo_bit_30 x1 r1 r2))))))
theorem x_f_Mo_bit (x1 : Int32) (q : z_Sg) (hq : z_gI q 4 = -1) : z_po (f_Mo_bit x1 q) (z_X (fun o : z_Sg => o) (e_f_Mo_bit x1 q)) := by
  unfold f_Mo_bit e_f_Mo_bit
  refine X_p (R := fun _ => True) (fun _ _ => trivial) (fun r1 _ => ?_)
  refine X_b (x_f_Mo_takeMod q hq) (fun r2 h_r2 => ?_) (fun r2 h_r2 => ?_)
  rotate_left
  ·
    refine po_i (fun _ => ?_) (fun _ => ?_)
    ·
      refine po_i (fun _ => ?_) (fun _ => ?_)
      ·
        exact d_k_Mo_bit_30 r2 x1 r1 r2 rfl h_r2
      ·
        refine po_b (d_f_Mo_refuse r2 (6 : Int32) r2 rfl h_r2) (fun r33 h_r33 => ?_)
        exact d_k_Mo_bit_30 r2 x1 r1 r33 h_r33 h_r2
    ·
      exact d_k_Mo_bit_30 r2 x1 r1 r2 rfl h_r2
  refine X_i (fun _ => ?_) (fun _ => ?_)
  ·
    refine X_i (fun _ => ?_) (fun _ => ?_)
    ·
      exact x_k_Mo_bit_30 x1 r1 r2 h_r2
    ·
      refine X_b (x_f_Mo_refuse (6 : Int32) r2 h_r2) (fun r33 h_r33 => ?_) (fun r33 h_r33 => ?_)
      rotate_left
      ·
        exact d_k_Mo_bit_30 r33 x1 r1 r33 rfl h_r33
      exact x_k_Mo_bit_30 x1 r1 r33 h_r33
  ·
    exact x_k_Mo_bit_30 x1 r1 r2 h_r2
set_option maxHeartbeats 4000000 in
set_option maxRecDepth 100000 in
def e_f_Mo_compareAndChange (x1 : Int32) (q : z_Sg) : Option (Sum z_Dd z_Sg) :=
  (z_eb (e_f_Mo_takeOperand q) (fun r1 => (z_eb (e_f_Mo_e x1 (1 : Int32) r1) (fun r2 => ((f_Mo_get8 (0 : Int32) x1 r2.2).bind (fun r3 => ((f_Mo_add r3 r2.1 (0 : Int32) (1 : Int32) x1 r2.2).bind (fun r4 => (if (z_bad (3 : Int32) 7) then none else (if (z_gN r4.2 1 (3 : Int32).toNatClampNeg) = 0 then ((f_Mo_setE x1 r2.1 r4.2).bind (fun r7 => ((f_Mo_put8 (0 : Int32) x1 r2.1 r7).bind (fun r8 => ((k_Mo_compareAndChange_61 r8).bind (fun o => some (.inr o))))))) else ((f_Mo_g x1 r4.2).bind (fun r9 => ((f_Mo_setE x1 r9 r4.2).bind (fun r10 => ((k_Mo_compareAndChange_61 r10).bind (fun o => some (.inr o)))))))))))))))))
theorem x_f_Mo_compareAndChange (x1 : Int32) (q : z_Sg) (hq : z_gI q 4 = -1) : z_po (f_Mo_compareAndChange x1 q) (z_X (fun o : z_Sg => o) (e_f_Mo_compareAndChange x1 q)) := by
  unfold f_Mo_compareAndChange e_f_Mo_compareAndChange
  refine X_b (x_f_Mo_takeOperand q hq) (fun r1 h_r1 => ?_) (fun r1 h_r1 => ?_)
  rotate_left
  ·
    refine po_b (d_f_Mo_e r1 x1 (1 : Int32) r1 rfl h_r1) (fun r2 h_r2 => ?_)
    refine po_b (R := fun _ => True) (fun _ _ => trivial) (fun r3 _ => ?_)
    refine po_b (d_f_Mo_add r1 r3 r2.1 (0 : Int32) (1 : Int32) x1 r2.2 h_r2) (fun r4 h_r4 => ?_)
    refine po_g (fun _ => ?_)
    refine po_i (fun _ => ?_) (fun _ => ?_)
    ·
      refine po_b (d_f_Mo_setE r1 x1 r2.1 r4.2 h_r4) (fun r7 h_r7 => ?_)
      refine po_b (d_f_Mo_put8 r1 (0 : Int32) x1 r2.1 r7 h_r7) (fun r8 h_r8 => ?_)
      exact d_k_Mo_compareAndChange_61 r1 r8 h_r8
    ·
      refine po_b (R := fun _ => True) (fun _ _ => trivial) (fun r9 _ => ?_)
      refine po_b (d_f_Mo_setE r1 x1 r9 r4.2 h_r4) (fun r10 h_r10 => ?_)
      exact d_k_Mo_compareAndChange_61 r1 r10 h_r10
  refine X_b (x_f_Mo_e x1 (1 : Int32) r1 h_r1) (fun r2 h_r2 => ?_) (fun r2 h_r2 => ?_)
  rotate_left
  ·
    refine po_b (R := fun _ => True) (fun _ _ => trivial) (fun r3 _ => ?_)
    refine po_b (d_f_Mo_add r2.2 r3 r2.1 (0 : Int32) (1 : Int32) x1 r2.2 rfl) (fun r4 h_r4 => ?_)
    refine po_g (fun _ => ?_)
    refine po_i (fun _ => ?_) (fun _ => ?_)
    ·
      refine po_b (d_f_Mo_setE r2.2 x1 r2.1 r4.2 h_r4) (fun r7 h_r7 => ?_)
      refine po_b (d_f_Mo_put8 r2.2 (0 : Int32) x1 r2.1 r7 h_r7) (fun r8 h_r8 => ?_)
      exact d_k_Mo_compareAndChange_61 r2.2 r8 h_r8
    ·
      refine po_b (R := fun _ => True) (fun _ _ => trivial) (fun r9 _ => ?_)
      refine po_b (d_f_Mo_setE r2.2 x1 r9 r4.2 h_r4) (fun r10 h_r10 => ?_)
      exact d_k_Mo_compareAndChange_61 r2.2 r10 h_r10
  refine X_p (R := fun _ => True) (fun _ _ => trivial) (fun r3 _ => ?_)
  refine X_p (d_f_Mo_add r2.2 r3 r2.1 (0 : Int32) (1 : Int32) x1 r2.2 rfl) (fun r4 k_r4 => ?_)
  have h_r4 : z_gI r4.2 4 = -1 := pn_a k_r4 h_r2
  refine X_g (fun _ => ?_)
  refine X_i (fun _ => ?_) (fun _ => ?_)
  ·
    refine X_p (d_f_Mo_setE r4.2 x1 r2.1 r4.2 rfl) (fun r7 k_r7 => ?_)
    have h_r7 : z_gI r7 4 = -1 := pn_a k_r7 h_r4
    refine X_p (d_f_Mo_put8 r7 (0 : Int32) x1 r2.1 r7 rfl) (fun r8 k_r8 => ?_)
    have h_r8 : z_gI r8 4 = -1 := pn_a k_r8 h_r7
    exact X_t (d_k_Mo_compareAndChange_61 r8 r8 rfl) h_r8
  ·
    refine X_p (R := fun _ => True) (fun _ _ => trivial) (fun r9 _ => ?_)
    refine X_p (d_f_Mo_setE r4.2 x1 r9 r4.2 rfl) (fun r10 k_r10 => ?_)
    have h_r10 : z_gI r10 4 = -1 := pn_a k_r10 h_r4
    exact X_t (d_k_Mo_compareAndChange_61 r10 r10 rfl) h_r10
set_option maxHeartbeats 4000000 in
set_option maxRecDepth 100000 in
def e_f_Mo_scan (x1 : Int32) (q : z_Sg) : Option (Sum z_Dd z_Sg) :=
  (z_eb (e_f_Mo_takeOperand q) (fun r1 => ((f_Mo_wide r1).bind (fun r2 => (z_eb (e_f_Mo_e r2 (0 : Int32) r1) (fun r3 => ((k_Mo_scan_23 x1 r3.1 (-1 : Int32) (-1 : Int32) (0 : Int32) r3.2).bind (fun o => some (.inr o)))))))))
theorem x_f_Mo_scan (x1 : Int32) (q : z_Sg) (hq : z_gI q 4 = -1) : z_po (f_Mo_scan x1 q) (z_X (fun o : z_Sg => o) (e_f_Mo_scan x1 q)) := by
  unfold f_Mo_scan e_f_Mo_scan
  refine X_b (x_f_Mo_takeOperand q hq) (fun r1 h_r1 => ?_) (fun r1 h_r1 => ?_)
  rotate_left
  ·
    refine po_b (R := fun _ => True) (fun _ _ => trivial) (fun r2 _ => ?_)
    refine po_b (d_f_Mo_e r1 r2 (0 : Int32) r1 rfl h_r1) (fun r3 h_r3 => ?_)
    exact d_k_Mo_scan_23 r1 x1 r3.1 (-1 : Int32) (-1 : Int32) (0 : Int32) r3.2 h_r3
  refine X_p (R := fun _ => True) (fun _ _ => trivial) (fun r2 _ => ?_)
  refine X_b (x_f_Mo_e r2 (0 : Int32) r1 h_r1) (fun r3 h_r3 => ?_) (fun r3 h_r3 => ?_)
  rotate_left
  ·
    exact d_k_Mo_scan_23 r3.2 x1 r3.1 (-1 : Int32) (-1 : Int32) (0 : Int32) r3.2 rfl
  exact X_t (d_k_Mo_scan_23 r3.2 x1 r3.1 (-1 : Int32) (-1 : Int32) (0 : Int32) r3.2 rfl) h_r3
set_option maxHeartbeats 4000000 in
set_option maxRecDepth 100000 in
def e_f_Mo_addAndChange (x1 : Int32) (q : z_Sg) : Option (Sum z_Dd z_Sg) :=
  (z_eb (e_f_Mo_takeOperand q) (fun r1 => (z_eb (e_f_Mo_e x1 (1 : Int32) r1) (fun r2 => ((f_Mo_g x1 r2.2).bind (fun r3 => ((f_Mo_add r2.1 r3 (0 : Int32) (0 : Int32) x1 r2.2).bind (fun r4 => ((f_Mo_setG x1 r2.1 r4.2).bind (fun r5 => ((f_Mo_setE x1 r4.1 r5).bind (fun r6 => (some (.inr r6))))))))))))))
theorem x_f_Mo_addAndChange (x1 : Int32) (q : z_Sg) (hq : z_gI q 4 = -1) : z_po (f_Mo_addAndChange x1 q) (z_X (fun o : z_Sg => o) (e_f_Mo_addAndChange x1 q)) := by
  unfold f_Mo_addAndChange e_f_Mo_addAndChange
  refine X_b (x_f_Mo_takeOperand q hq) (fun r1 h_r1 => ?_) (fun r1 h_r1 => ?_)
  rotate_left
  ·
    refine po_b (d_f_Mo_e r1 x1 (1 : Int32) r1 rfl h_r1) (fun r2 h_r2 => ?_)
    refine po_b (R := fun _ => True) (fun _ _ => trivial) (fun r3 _ => ?_)
    refine po_b (d_f_Mo_add r1 r2.1 r3 (0 : Int32) (0 : Int32) x1 r2.2 h_r2) (fun r4 h_r4 => ?_)
    refine po_b (d_f_Mo_setG r1 x1 r2.1 r4.2 h_r4) (fun r5 h_r5 => ?_)
    refine po_b (d_f_Mo_setE r1 x1 r4.1 r5 h_r5) (fun r6 h_r6 => ?_)
    exact po_s h_r6
  refine X_b (x_f_Mo_e x1 (1 : Int32) r1 h_r1) (fun r2 h_r2 => ?_) (fun r2 h_r2 => ?_)
  rotate_left
  ·
    refine po_b (R := fun _ => True) (fun _ _ => trivial) (fun r3 _ => ?_)
    refine po_b (d_f_Mo_add r2.2 r2.1 r3 (0 : Int32) (0 : Int32) x1 r2.2 rfl) (fun r4 h_r4 => ?_)
    refine po_b (d_f_Mo_setG r2.2 x1 r2.1 r4.2 h_r4) (fun r5 h_r5 => ?_)
    refine po_b (d_f_Mo_setE r2.2 x1 r4.1 r5 h_r5) (fun r6 h_r6 => ?_)
    exact po_s h_r6
  refine X_p (R := fun _ => True) (fun _ _ => trivial) (fun r3 _ => ?_)
  refine X_p (d_f_Mo_add r2.2 r2.1 r3 (0 : Int32) (0 : Int32) x1 r2.2 rfl) (fun r4 k_r4 => ?_)
  have h_r4 : z_gI r4.2 4 = -1 := pn_a k_r4 h_r2
  refine X_p (d_f_Mo_setG r4.2 x1 r2.1 r4.2 rfl) (fun r5 k_r5 => ?_)
  have h_r5 : z_gI r5 4 = -1 := pn_a k_r5 h_r4
  refine X_p (d_f_Mo_setE r5 x1 r4.1 r5 rfl) (fun r6 k_r6 => ?_)
  have h_r6 : z_gI r6 4 = -1 := pn_a k_r6 h_r5
  exact po_s (X_s h_r6)
set_option maxHeartbeats 4000000 in
set_option maxRecDepth 100000 in
def e_f_Mo_turnRound (x1 : Int32) (q : z_Sg) : Option (Sum z_Dd z_Sg) :=
  ((f_Mo_wide q).bind (fun r1 => (if r1 = (2 : Int32) then (z_eb (e_f_Mo_refuse (6 : Int32) q) (fun r8 => (some (.inr r8)))) else ((k_Mo_turnRound_22 x1 r1 (0 : Int64) (0 : Int32) q).bind (fun o => some (.inr o))))))
theorem x_f_Mo_turnRound (x1 : Int32) (q : z_Sg) (hq : z_gI q 4 = -1) : z_po (f_Mo_turnRound x1 q) (z_X (fun o : z_Sg => o) (e_f_Mo_turnRound x1 q)) := by
  unfold f_Mo_turnRound e_f_Mo_turnRound
  refine X_p (R := fun _ => True) (fun _ _ => trivial) (fun r1 _ => ?_)
  refine X_i (fun _ => ?_) (fun _ => ?_)
  ·
    refine X_b (x_f_Mo_refuse (6 : Int32) q hq) (fun r8 h_r8 => ?_) (fun r8 h_r8 => ?_)
    rotate_left
    ·
      exact po_s rfl
    exact po_s (X_s h_r8)
  ·
    exact X_t (d_k_Mo_turnRound_22 q x1 r1 (0 : Int64) (0 : Int32) q rfl) hq
set_option maxHeartbeats 4000000 in
set_option maxRecDepth 100000 in
def e_k_Mo_second_183 (t1 : Int32) (q : z_Sg) : Option (Sum z_Dd z_Sg) :=
  (z_eb (e_f_Mo_system t1 q) (fun r7 => ((k_Mo_second_402 r7).bind (fun o => some (.inr o)))))
theorem x_k_Mo_second_183 (t1 : Int32) (q : z_Sg) (hq : z_gI q 4 = -1) : z_po (k_Mo_second_183 t1 q) (z_X (fun o : z_Sg => o) (e_k_Mo_second_183 t1 q)) := by
  unfold k_Mo_second_183 e_k_Mo_second_183
  refine X_b (x_f_Mo_system t1 q hq) (fun r7 h_r7 => ?_) (fun r7 h_r7 => ?_)
  rotate_left
  ·
    exact d_k_Mo_second_402 r7 r7 rfl
  exact X_t (d_k_Mo_second_402 r7 r7 rfl) h_r7
set_option maxHeartbeats 4000000 in
set_option maxRecDepth 100000 in
def e_k_Mo_second_172 (x1 : Int32) (q : z_Sg) : Option (Sum z_Dd z_Sg) :=
  (if x1 = (5 : Int32) then (e_k_Mo_second_183 (1 : Int32) q) else (e_k_Mo_second_183 (0 : Int32) q))
theorem x_k_Mo_second_172 (x1 : Int32) (q : z_Sg) (hq : z_gI q 4 = -1) : z_po (k_Mo_second_172 x1 q) (z_X (fun o : z_Sg => o) (e_k_Mo_second_172 x1 q)) := by
  unfold k_Mo_second_172 e_k_Mo_second_172
  refine X_i (fun _ => ?_) (fun _ => ?_)
  ·
    exact x_k_Mo_second_183 (1 : Int32) q hq
  ·
    exact x_k_Mo_second_183 (0 : Int32) q hq
set_option maxHeartbeats 4000000 in
set_option maxRecDepth 100000 in
def e_k_Mo_second_224 (x1 : Int32) (q : z_Sg) : Option (Sum z_Dd z_Sg) :=
  (z_eb (e_f_Mo_bit x1 q) (fun r10 => ((k_Mo_second_402 r10).bind (fun o => some (.inr o)))))
theorem x_k_Mo_second_224 (x1 : Int32) (q : z_Sg) (hq : z_gI q 4 = -1) : z_po (k_Mo_second_224 x1 q) (z_X (fun o : z_Sg => o) (e_k_Mo_second_224 x1 q)) := by
  unfold k_Mo_second_224 e_k_Mo_second_224
  refine X_b (x_f_Mo_bit x1 q hq) (fun r10 h_r10 => ?_) (fun r10 h_r10 => ?_)
  rotate_left
  ·
    exact d_k_Mo_second_402 r10 r10 rfl
  exact X_t (d_k_Mo_second_402 r10 r10 rfl) h_r10
set_option maxHeartbeats 4000000 in
set_option maxRecDepth 100000 in
def e_k_Mo_second_261 (x2 : Int32) (q : z_Sg) : Option (Sum z_Dd z_Sg) :=
  (z_eb (e_f_Mo_compareAndChange x2 q) (fun r17 => ((k_Mo_second_402 r17).bind (fun o => some (.inr o)))))
theorem x_k_Mo_second_261 (x2 : Int32) (q : z_Sg) (hq : z_gI q 4 = -1) : z_po (k_Mo_second_261 x2 q) (z_X (fun o : z_Sg => o) (e_k_Mo_second_261 x2 q)) := by
  unfold k_Mo_second_261 e_k_Mo_second_261
  refine X_b (x_f_Mo_compareAndChange x2 q hq) (fun r17 h_r17 => ?_) (fun r17 h_r17 => ?_)
  rotate_left
  ·
    exact d_k_Mo_second_402 r17 r17 rfl
  exact X_t (d_k_Mo_second_402 r17 r17 rfl) h_r17
set_option maxHeartbeats 4000000 in
set_option maxRecDepth 100000 in
def e_k_Mo_second_305 (t1 : Int32) (t3 : Int32) (q : z_Sg) : Option (Sum z_Dd z_Sg) :=
  (z_eb (e_f_Mo_e t3 (0 : Int32) q) (fun r23 => ((f_Mo_setG t1 r23.1 r23.2).bind (fun r24 => ((k_Mo_second_402 r24).bind (fun o => some (.inr o)))))))
theorem x_k_Mo_second_305 (t1 : Int32) (t3 : Int32) (q : z_Sg) (hq : z_gI q 4 = -1) : z_po (k_Mo_second_305 t1 t3 q) (z_X (fun o : z_Sg => o) (e_k_Mo_second_305 t1 t3 q)) := by
  unfold k_Mo_second_305 e_k_Mo_second_305
  refine X_b (x_f_Mo_e t3 (0 : Int32) q hq) (fun r23 h_r23 => ?_) (fun r23 h_r23 => ?_)
  rotate_left
  ·
    refine po_b (d_f_Mo_setG r23.2 t1 r23.1 r23.2 rfl) (fun r24 h_r24 => ?_)
    exact d_k_Mo_second_402 r23.2 r24 h_r24
  refine X_p (d_f_Mo_setG r23.2 t1 r23.1 r23.2 rfl) (fun r24 k_r24 => ?_)
  have h_r24 : z_gI r24 4 = -1 := pn_a k_r24 h_r23
  exact X_t (d_k_Mo_second_402 r24 r24 rfl) h_r24
set_option maxHeartbeats 4000000 in
set_option maxRecDepth 100000 in
def e_k_Mo_second_283 (x1 : Int32) (q : z_Sg) : Option (Sum z_Dd z_Sg) :=
  (z_eb (e_f_Mo_takeOperand q) (fun r20 => ((f_Mo_wide r20).bind (fun r21 => (if x1 = (182 : Int32) then (e_k_Mo_second_305 r21 (1 : Int32) r20) else (e_k_Mo_second_305 r21 (2 : Int32) r20))))))
theorem x_k_Mo_second_283 (x1 : Int32) (q : z_Sg) (hq : z_gI q 4 = -1) : z_po (k_Mo_second_283 x1 q) (z_X (fun o : z_Sg => o) (e_k_Mo_second_283 x1 q)) := by
  unfold k_Mo_second_283 e_k_Mo_second_283
  refine X_b (x_f_Mo_takeOperand q hq) (fun r20 h_r20 => ?_) (fun r20 h_r20 => ?_)
  rotate_left
  ·
    refine po_b (R := fun _ => True) (fun _ _ => trivial) (fun r21 _ => ?_)
    refine po_i (fun _ => ?_) (fun _ => ?_)
    ·
      exact d_k_Mo_second_305 r20 r21 (1 : Int32) r20 rfl h_r20
    ·
      exact d_k_Mo_second_305 r20 r21 (2 : Int32) r20 rfl h_r20
  refine X_p (R := fun _ => True) (fun _ _ => trivial) (fun r21 _ => ?_)
  refine X_i (fun _ => ?_) (fun _ => ?_)
  ·
    exact x_k_Mo_second_305 r21 (1 : Int32) r20 h_r20
  ·
    exact x_k_Mo_second_305 r21 (2 : Int32) r20 h_r20
set_option maxHeartbeats 4000000 in
set_option maxRecDepth 100000 in
def e_k_Mo_second_346 (t1 : Int32) (t2 : Int32) (q : z_Sg) : Option (Sum z_Dd z_Sg) :=
  (z_eb (e_f_Mo_extend t1 t2 q) (fun r29 => ((k_Mo_second_402 r29).bind (fun o => some (.inr o)))))
theorem x_k_Mo_second_346 (t1 : Int32) (t2 : Int32) (q : z_Sg) (hq : z_gI q 4 = -1) : z_po (k_Mo_second_346 t1 t2 q) (z_X (fun o : z_Sg => o) (e_k_Mo_second_346 t1 t2 q)) := by
  unfold k_Mo_second_346 e_k_Mo_second_346
  refine X_b (x_f_Mo_extend t1 t2 q hq) (fun r29 h_r29 => ?_) (fun r29 h_r29 => ?_)
  rotate_left
  ·
    exact d_k_Mo_second_402 r29 r29 rfl
  exact X_t (d_k_Mo_second_402 r29 r29 rfl) h_r29
set_option maxHeartbeats 4000000 in
set_option maxRecDepth 100000 in
def e_k_Mo_second_329 (x1 : Int32) (q : z_Sg) : Option (Sum z_Dd z_Sg) :=
  ((f_Mo_wide q).bind (fun r27 => (if x1 = (190 : Int32) then (e_k_Mo_second_346 r27 (1 : Int32) q) else (e_k_Mo_second_346 r27 (2 : Int32) q))))
theorem x_k_Mo_second_329 (x1 : Int32) (q : z_Sg) (hq : z_gI q 4 = -1) : z_po (k_Mo_second_329 x1 q) (z_X (fun o : z_Sg => o) (e_k_Mo_second_329 x1 q)) := by
  unfold k_Mo_second_329 e_k_Mo_second_329
  refine X_p (R := fun _ => True) (fun _ _ => trivial) (fun r27 _ => ?_)
  refine X_i (fun _ => ?_) (fun _ => ?_)
  ·
    exact x_k_Mo_second_346 r27 (1 : Int32) q hq
  ·
    exact x_k_Mo_second_346 r27 (2 : Int32) q hq
set_option maxHeartbeats 4000000 in
set_option maxRecDepth 100000 in
def e_k_Mo_second_366 (x1 : Int32) (q : z_Sg) : Option (Sum z_Dd z_Sg) :=
  (z_eb (e_f_Mo_scan x1 q) (fun r32 => ((k_Mo_second_402 r32).bind (fun o => some (.inr o)))))
theorem x_k_Mo_second_366 (x1 : Int32) (q : z_Sg) (hq : z_gI q 4 = -1) : z_po (k_Mo_second_366 x1 q) (z_X (fun o : z_Sg => o) (e_k_Mo_second_366 x1 q)) := by
  unfold k_Mo_second_366 e_k_Mo_second_366
  refine X_b (x_f_Mo_scan x1 q hq) (fun r32 h_r32 => ?_) (fun r32 h_r32 => ?_)
  rotate_left
  ·
    exact d_k_Mo_second_402 r32 r32 rfl
  exact X_t (d_k_Mo_second_402 r32 r32 rfl) h_r32
set_option maxHeartbeats 4000000 in
set_option maxRecDepth 100000 in
def e_k_Mo_second_388 (x2 : Int32) (q : z_Sg) : Option (Sum z_Dd z_Sg) :=
  (z_eb (e_f_Mo_addAndChange x2 q) (fun r35 => ((k_Mo_second_402 r35).bind (fun o => some (.inr o)))))
theorem x_k_Mo_second_388 (x2 : Int32) (q : z_Sg) (hq : z_gI q 4 = -1) : z_po (k_Mo_second_388 x2 q) (z_X (fun o : z_Sg => o) (e_k_Mo_second_388 x2 q)) := by
  unfold k_Mo_second_388 e_k_Mo_second_388
  refine X_b (x_f_Mo_addAndChange x2 q hq) (fun r35 h_r35 => ?_) (fun r35 h_r35 => ?_)
  rotate_left
  ·
    exact d_k_Mo_second_402 r35 r35 rfl
  exact X_t (d_k_Mo_second_402 r35 r35 rfl) h_r35
set_option maxHeartbeats 4000000 in
set_option maxRecDepth 100000 in
def e_k_Mo_second_161 (x1 : Int32) (x2 : Int32) (q : z_Sg) : Option (Sum z_Dd z_Sg) :=
  (if x1 = (5 : Int32) then (e_k_Mo_second_172 x1 q) else (if x1 = (7 : Int32) then (e_k_Mo_second_172 x1 q) else (if x1 = (163 : Int32) then (e_k_Mo_second_224 x1 q) else (if x1 = (171 : Int32) then (e_k_Mo_second_224 x1 q) else (if x1 = (179 : Int32) then (e_k_Mo_second_224 x1 q) else (if x1 = (187 : Int32) then (e_k_Mo_second_224 x1 q) else (if x1 = (186 : Int32) then (e_k_Mo_second_224 x1 q) else (if x1 = (175 : Int32) then (z_eb (e_f_Mo_product x1 q) (fun r38 => ((k_Mo_second_402 r38).bind (fun o => some (.inr o))))) else (if x1 = (176 : Int32) then (e_k_Mo_second_261 x2 q) else (if x1 = (177 : Int32) then (e_k_Mo_second_261 x2 q) else (if x1 = (182 : Int32) then (e_k_Mo_second_283 x1 q) else (if x1 = (183 : Int32) then (e_k_Mo_second_283 x1 q) else (if x1 = (190 : Int32) then (e_k_Mo_second_329 x1 q) else (if x1 = (191 : Int32) then (e_k_Mo_second_329 x1 q) else (if x1 = (188 : Int32) then (e_k_Mo_second_366 x1 q) else (if x1 = (189 : Int32) then (e_k_Mo_second_366 x1 q) else (if x1 = (192 : Int32) then (e_k_Mo_second_388 x2 q) else (if x1 = (193 : Int32) then (e_k_Mo_second_388 x2 q) else (z_eb (e_f_Mo_refuse (6 : Int32) q) (fun r37 => ((k_Mo_second_402 r37).bind (fun o => some (.inr o)))))))))))))))))))))))
theorem x_k_Mo_second_161 (x1 : Int32) (x2 : Int32) (q : z_Sg) (hq : z_gI q 4 = -1) : z_po (k_Mo_second_161 x1 x2 q) (z_X (fun o : z_Sg => o) (e_k_Mo_second_161 x1 x2 q)) := by
  unfold k_Mo_second_161 e_k_Mo_second_161
  refine X_i (fun _ => ?_) (fun _ => ?_)
  ·
    exact x_k_Mo_second_172 x1 q hq
  ·
    refine X_i (fun _ => ?_) (fun _ => ?_)
    ·
      exact x_k_Mo_second_172 x1 q hq
    ·
      refine X_i (fun _ => ?_) (fun _ => ?_)
      ·
        exact x_k_Mo_second_224 x1 q hq
      ·
        refine X_i (fun _ => ?_) (fun _ => ?_)
        ·
          exact x_k_Mo_second_224 x1 q hq
        ·
          refine X_i (fun _ => ?_) (fun _ => ?_)
          ·
            exact x_k_Mo_second_224 x1 q hq
          ·
            refine X_i (fun _ => ?_) (fun _ => ?_)
            ·
              exact x_k_Mo_second_224 x1 q hq
            ·
              refine X_i (fun _ => ?_) (fun _ => ?_)
              ·
                exact x_k_Mo_second_224 x1 q hq
              ·
                refine X_i (fun _ => ?_) (fun _ => ?_)
                ·
                  refine X_b (x_f_Mo_product x1 q hq) (fun r38 h_r38 => ?_) (fun r38 h_r38 => ?_)
                  rotate_left
                  ·
                    exact d_k_Mo_second_402 r38 r38 rfl
                  exact X_t (d_k_Mo_second_402 r38 r38 rfl) h_r38
                ·
                  refine X_i (fun _ => ?_) (fun _ => ?_)
                  ·
                    exact x_k_Mo_second_261 x2 q hq
                  ·
                    refine X_i (fun _ => ?_) (fun _ => ?_)
                    ·
                      exact x_k_Mo_second_261 x2 q hq
                    ·
                      refine X_i (fun _ => ?_) (fun _ => ?_)
                      ·
                        exact x_k_Mo_second_283 x1 q hq
                      ·
                        refine X_i (fun _ => ?_) (fun _ => ?_)
                        ·
                          exact x_k_Mo_second_283 x1 q hq
                        ·
                          refine X_i (fun _ => ?_) (fun _ => ?_)
                          ·
                            exact x_k_Mo_second_329 x1 q hq
                          ·
                            refine X_i (fun _ => ?_) (fun _ => ?_)
                            ·
                              exact x_k_Mo_second_329 x1 q hq
                            ·
                              refine X_i (fun _ => ?_) (fun _ => ?_)
                              ·
                                exact x_k_Mo_second_366 x1 q hq
                              ·
                                refine X_i (fun _ => ?_) (fun _ => ?_)
                                ·
                                  exact x_k_Mo_second_366 x1 q hq
                                ·
                                  refine X_i (fun _ => ?_) (fun _ => ?_)
                                  ·
                                    exact x_k_Mo_second_388 x2 q hq
                                  ·
                                    refine X_i (fun _ => ?_) (fun _ => ?_)
                                    ·
                                      exact x_k_Mo_second_388 x2 q hq
                                    ·
                                      refine X_b (x_f_Mo_refuse (6 : Int32) q hq) (fun r37 h_r37 => ?_) (fun r37 h_r37 => ?_)
                                      rotate_left
                                      ·
                                        exact d_k_Mo_second_402 r37 r37 rfl
                                      exact X_t (d_k_Mo_second_402 r37 r37 rfl) h_r37
set_option maxHeartbeats 4000000 in
set_option maxRecDepth 100000 in
def e_k_Mo_second_130 (x1 : Int32) (x2 : Int32) (q : z_Sg) : Option (Sum z_Dd z_Sg) :=
  (if x1 < (200 : Int32) then (e_k_Mo_second_161 x1 x2 q) else (if (207 : Int32) < x1 then (e_k_Mo_second_161 x1 x2 q) else ((f_Mo_plus (1 : Int32) q).bind (fun r40 => (z_eb (e_f_Mo_turnRound ((x1 - ((x1 / (8 : Int32)) * (8 : Int32))) + r40) q) (fun r41 => ((k_Mo_second_402 r41).bind (fun o => some (.inr o)))))))))
theorem x_k_Mo_second_130 (x1 : Int32) (x2 : Int32) (q : z_Sg) (hq : z_gI q 4 = -1) : z_po (k_Mo_second_130 x1 x2 q) (z_X (fun o : z_Sg => o) (e_k_Mo_second_130 x1 x2 q)) := by
  unfold k_Mo_second_130 e_k_Mo_second_130
  refine X_i (fun _ => ?_) (fun _ => ?_)
  ·
    exact x_k_Mo_second_161 x1 x2 q hq
  ·
    refine X_i (fun _ => ?_) (fun _ => ?_)
    ·
      exact x_k_Mo_second_161 x1 x2 q hq
    ·
      refine X_p (R := fun _ => True) (fun _ _ => trivial) (fun r40 _ => ?_)
      refine X_b (x_f_Mo_turnRound ((x1 - ((x1 / (8 : Int32)) * (8 : Int32))) + r40) q hq) (fun r41 h_r41 => ?_) (fun r41 h_r41 => ?_)
      rotate_left
      ·
        exact d_k_Mo_second_402 r41 r41 rfl
      exact X_t (d_k_Mo_second_402 r41 r41 rfl) h_r41
set_option maxHeartbeats 4000000 in
set_option maxRecDepth 100000 in
def e_k_Mo_second_84 (x1 : Int32) (x2 : Int32) (q : z_Sg) : Option (Sum z_Dd z_Sg) :=
  (if x1 < (144 : Int32) then (e_k_Mo_second_130 x1 x2 q) else (if (159 : Int32) < x1 then (e_k_Mo_second_130 x1 x2 q) else (z_eb (e_f_Mo_takeOperand q) (fun r43 => (z_eb (e_f_Mo_e (1 : Int32) (1 : Int32) r43) (fun r44 => ((f_Mo_holds x1 r44.2).bind (fun r45 => (if r45 = 0 then ((k_Mo_second_124 (1 : Int32) (0 : Int64) r44.2).bind (fun o => some (.inr o))) else ((k_Mo_second_124 (1 : Int32) (1 : Int64) r44.2).bind (fun o => some (.inr o))))))))))))
theorem x_k_Mo_second_84 (x1 : Int32) (x2 : Int32) (q : z_Sg) (hq : z_gI q 4 = -1) : z_po (k_Mo_second_84 x1 x2 q) (z_X (fun o : z_Sg => o) (e_k_Mo_second_84 x1 x2 q)) := by
  unfold k_Mo_second_84 e_k_Mo_second_84
  refine X_i (fun _ => ?_) (fun _ => ?_)
  ·
    exact x_k_Mo_second_130 x1 x2 q hq
  ·
    refine X_i (fun _ => ?_) (fun _ => ?_)
    ·
      exact x_k_Mo_second_130 x1 x2 q hq
    ·
      refine X_b (x_f_Mo_takeOperand q hq) (fun r43 h_r43 => ?_) (fun r43 h_r43 => ?_)
      rotate_left
      ·
        refine po_b (d_f_Mo_e r43 (1 : Int32) (1 : Int32) r43 rfl h_r43) (fun r44 h_r44 => ?_)
        refine po_b (R := fun _ => True) (fun _ _ => trivial) (fun r45 _ => ?_)
        refine po_i (fun _ => ?_) (fun _ => ?_)
        ·
          exact d_k_Mo_second_124 r43 (1 : Int32) (0 : Int64) r44.2 h_r44
        ·
          exact d_k_Mo_second_124 r43 (1 : Int32) (1 : Int64) r44.2 h_r44
      refine X_b (x_f_Mo_e (1 : Int32) (1 : Int32) r43 h_r43) (fun r44 h_r44 => ?_) (fun r44 h_r44 => ?_)
      rotate_left
      ·
        refine po_b (R := fun _ => True) (fun _ _ => trivial) (fun r45 _ => ?_)
        refine po_i (fun _ => ?_) (fun _ => ?_)
        ·
          exact d_k_Mo_second_124 r44.2 (1 : Int32) (0 : Int64) r44.2 rfl
        ·
          exact d_k_Mo_second_124 r44.2 (1 : Int32) (1 : Int64) r44.2 rfl
      refine X_p (R := fun _ => True) (fun _ _ => trivial) (fun r45 _ => ?_)
      refine X_i (fun _ => ?_) (fun _ => ?_)
      ·
        exact X_t (d_k_Mo_second_124 r44.2 (1 : Int32) (0 : Int64) r44.2 rfl) h_r44
      ·
        exact X_t (d_k_Mo_second_124 r44.2 (1 : Int32) (1 : Int64) r44.2 rfl) h_r44
set_option maxHeartbeats 4000000 in
set_option maxRecDepth 100000 in
def e_k_Mo_second_57 (x1 : Int32) (x2 : Int32) (q : z_Sg) : Option (Sum z_Dd z_Sg) :=
  (if x1 < (128 : Int32) then (e_k_Mo_second_84 x1 x2 q) else (if (143 : Int32) < x1 then (e_k_Mo_second_84 x1 x2 q) else ((f_Mo_holds x1 q).bind (fun r49 => (z_eb (e_f_Mo_branch r49 (4 : Int32) q) (fun r50 => ((k_Mo_second_402 r50).bind (fun o => some (.inr o)))))))))
theorem x_k_Mo_second_57 (x1 : Int32) (x2 : Int32) (q : z_Sg) (hq : z_gI q 4 = -1) : z_po (k_Mo_second_57 x1 x2 q) (z_X (fun o : z_Sg => o) (e_k_Mo_second_57 x1 x2 q)) := by
  unfold k_Mo_second_57 e_k_Mo_second_57
  refine X_i (fun _ => ?_) (fun _ => ?_)
  ·
    exact x_k_Mo_second_84 x1 x2 q hq
  ·
    refine X_i (fun _ => ?_) (fun _ => ?_)
    ·
      exact x_k_Mo_second_84 x1 x2 q hq
    ·
      refine X_p (R := fun _ => True) (fun _ _ => trivial) (fun r49 _ => ?_)
      refine X_b (x_f_Mo_branch r49 (4 : Int32) q hq) (fun r50 h_r50 => ?_) (fun r50 h_r50 => ?_)
      rotate_left
      ·
        exact d_k_Mo_second_402 r50 r50 rfl
      exact X_t (d_k_Mo_second_402 r50 r50 rfl) h_r50
set_option maxHeartbeats 4000000 in
set_option maxRecDepth 100000 in
def e_f_Mo_second (x1 : Int32) (x2 : Int32) (q : z_Sg) : Option (Sum z_Dd z_Sg) :=
  (if x1 < (64 : Int32) then (e_k_Mo_second_57 x1 x2 q) else (if (79 : Int32) < x1 then (e_k_Mo_second_57 x1 x2 q) else (z_eb (e_f_Mo_takeOperand q) (fun r52 => ((f_Mo_wide r52).bind (fun r53 => (z_eb (e_f_Mo_e r53 (0 : Int32) r52) (fun r54 => ((f_Mo_wide r54.2).bind (fun r55 => ((f_Mo_holds x1 r54.2).bind (fun r56 => (if r56 = 0 then ((f_Mo_wide r54.2).bind (fun r58 => ((f_Mo_g r58 r54.2).bind (fun r59 => ((k_Mo_second_51 r55 r59 r54.2).bind (fun o => some (.inr o))))))) else ((k_Mo_second_51 r55 r54.1 r54.2).bind (fun o => some (.inr o))))))))))))))))
theorem x_f_Mo_second (x1 : Int32) (x2 : Int32) (q : z_Sg) (hq : z_gI q 4 = -1) : z_po (f_Mo_second x1 x2 q) (z_X (fun o : z_Sg => o) (e_f_Mo_second x1 x2 q)) := by
  unfold f_Mo_second e_f_Mo_second
  refine X_i (fun _ => ?_) (fun _ => ?_)
  ·
    exact x_k_Mo_second_57 x1 x2 q hq
  ·
    refine X_i (fun _ => ?_) (fun _ => ?_)
    ·
      exact x_k_Mo_second_57 x1 x2 q hq
    ·
      refine X_b (x_f_Mo_takeOperand q hq) (fun r52 h_r52 => ?_) (fun r52 h_r52 => ?_)
      rotate_left
      ·
        refine po_b (R := fun _ => True) (fun _ _ => trivial) (fun r53 _ => ?_)
        refine po_b (d_f_Mo_e r52 r53 (0 : Int32) r52 rfl h_r52) (fun r54 h_r54 => ?_)
        refine po_b (R := fun _ => True) (fun _ _ => trivial) (fun r55 _ => ?_)
        refine po_b (R := fun _ => True) (fun _ _ => trivial) (fun r56 _ => ?_)
        refine po_i (fun _ => ?_) (fun _ => ?_)
        ·
          refine po_b (R := fun _ => True) (fun _ _ => trivial) (fun r58 _ => ?_)
          refine po_b (R := fun _ => True) (fun _ _ => trivial) (fun r59 _ => ?_)
          exact d_k_Mo_second_51 r52 r55 r59 r54.2 h_r54
        ·
          exact d_k_Mo_second_51 r52 r55 r54.1 r54.2 h_r54
      refine X_p (R := fun _ => True) (fun _ _ => trivial) (fun r53 _ => ?_)
      refine X_b (x_f_Mo_e r53 (0 : Int32) r52 h_r52) (fun r54 h_r54 => ?_) (fun r54 h_r54 => ?_)
      rotate_left
      ·
        refine po_b (R := fun _ => True) (fun _ _ => trivial) (fun r55 _ => ?_)
        refine po_b (R := fun _ => True) (fun _ _ => trivial) (fun r56 _ => ?_)
        refine po_i (fun _ => ?_) (fun _ => ?_)
        ·
          refine po_b (R := fun _ => True) (fun _ _ => trivial) (fun r58 _ => ?_)
          refine po_b (R := fun _ => True) (fun _ _ => trivial) (fun r59 _ => ?_)
          exact d_k_Mo_second_51 r54.2 r55 r59 r54.2 rfl
        ·
          exact d_k_Mo_second_51 r54.2 r55 r54.1 r54.2 rfl
      refine X_p (R := fun _ => True) (fun _ _ => trivial) (fun r55 _ => ?_)
      refine X_p (R := fun _ => True) (fun _ _ => trivial) (fun r56 _ => ?_)
      refine X_i (fun _ => ?_) (fun _ => ?_)
      ·
        refine X_p (R := fun _ => True) (fun _ _ => trivial) (fun r58 _ => ?_)
        refine X_p (R := fun _ => True) (fun _ _ => trivial) (fun r59 _ => ?_)
        exact X_t (d_k_Mo_second_51 r54.2 r55 r59 r54.2 rfl) h_r54
      ·
        exact X_t (d_k_Mo_second_51 r54.2 r55 r54.1 r54.2 rfl) h_r54
