set_option maxHeartbeats 4000000 in
set_option maxRecDepth 100000 in
theorem m_k_Mo_setFlags_145 (q0 : z_Sg) (t1 : Int32) (t2 : Int32) (q : z_Sg) (hq : z_pk q = z_pk q0) : z_po (k_Mo_setFlags_145 t1 t2 q) (fun o : z_Sg => z_pk o = z_pk q0) := by
  unfold k_Mo_setFlags_145
  refine po_g (fun _ => ?_)
  refine po_n (fun q21 e_q21 => ?_)
  have h_q21 : z_pk q21 = z_pk q0 := by rw [e_q21]; exact hq
  exact po_s h_q21
set_option maxHeartbeats 4000000 in
set_option maxRecDepth 100000 in
theorem d_k_Mo_setFlags_145 (q0 : z_Sg) (t1 : Int32) (t2 : Int32) (q : z_Sg) (hq : z_pn q = z_pn q0) : z_po (k_Mo_setFlags_145 t1 t2 q) (fun o : z_Sg => z_pn o = z_pn q0) := by
  unfold k_Mo_setFlags_145
  refine po_g (fun _ => ?_)
  refine po_n (fun q21 e_q21 => ?_)
  have h_q21 : z_pn q21 = z_pn q0 := by rw [e_q21]; exact hq
  exact po_s h_q21
set_option maxHeartbeats 4000000 in
set_option maxRecDepth 100000 in
theorem m_k_Mo_setFlags_123 (q0 : z_Sg) (x1 : Int64) (t1 : Int32) (t2 : Int32) (q : z_Sg) (hq : z_pk q = z_pk q0) : z_po (k_Mo_setFlags_123 x1 t1 t2 q) (fun o : z_Sg => z_pk o = z_pk q0) := by
  unfold k_Mo_setFlags_123
  refine po_g (fun _ => ?_)
  refine po_n (fun q18 e_q18 => ?_)
  have h_q18 : z_pk q18 = z_pk q0 := by rw [e_q18]; exact hq
  refine po_i (fun _ => ?_) (fun _ => ?_)
  ·
    exact m_k_Mo_setFlags_145 q0 (6 : Int32) (0 : Int32) q18 h_q18
  ·
    exact m_k_Mo_setFlags_145 q0 (6 : Int32) (1 : Int32) q18 h_q18
set_option maxHeartbeats 4000000 in
set_option maxRecDepth 100000 in
theorem d_k_Mo_setFlags_123 (q0 : z_Sg) (x1 : Int64) (t1 : Int32) (t2 : Int32) (q : z_Sg) (hq : z_pn q = z_pn q0) : z_po (k_Mo_setFlags_123 x1 t1 t2 q) (fun o : z_Sg => z_pn o = z_pn q0) := by
  unfold k_Mo_setFlags_123
  refine po_g (fun _ => ?_)
  refine po_n (fun q18 e_q18 => ?_)
  have h_q18 : z_pn q18 = z_pn q0 := by rw [e_q18]; exact hq
  refine po_i (fun _ => ?_) (fun _ => ?_)
  ·
    exact d_k_Mo_setFlags_145 q0 (6 : Int32) (0 : Int32) q18 h_q18
  ·
    exact d_k_Mo_setFlags_145 q0 (6 : Int32) (1 : Int32) q18 h_q18
set_option maxHeartbeats 4000000 in
set_option maxRecDepth 100000 in
theorem m_k_Mo_setFlags_102 (q0 : z_Sg) (x1 : Int64) (t1 : Int32) (t2 : Int32) (q : z_Sg) (hq : z_pk q = z_pk q0) : z_po (k_Mo_setFlags_102 x1 t1 t2 q) (fun o : z_Sg => z_pk o = z_pk q0) := by
  unfold k_Mo_setFlags_102
  refine po_g (fun _ => ?_)
  refine po_n (fun q15 e_q15 => ?_)
  have h_q15 : z_pk q15 = z_pk q0 := by rw [e_q15]; exact hq
  refine po_i (fun _ => ?_) (fun _ => ?_)
  ·
    exact m_k_Mo_setFlags_123 q0 x1 (5 : Int32) (0 : Int32) q15 h_q15
  ·
    exact m_k_Mo_setFlags_123 q0 x1 (5 : Int32) (1 : Int32) q15 h_q15
set_option maxHeartbeats 4000000 in
set_option maxRecDepth 100000 in
theorem d_k_Mo_setFlags_102 (q0 : z_Sg) (x1 : Int64) (t1 : Int32) (t2 : Int32) (q : z_Sg) (hq : z_pn q = z_pn q0) : z_po (k_Mo_setFlags_102 x1 t1 t2 q) (fun o : z_Sg => z_pn o = z_pn q0) := by
  unfold k_Mo_setFlags_102
  refine po_g (fun _ => ?_)
  refine po_n (fun q15 e_q15 => ?_)
  have h_q15 : z_pn q15 = z_pn q0 := by rw [e_q15]; exact hq
  refine po_i (fun _ => ?_) (fun _ => ?_)
  ·
    exact d_k_Mo_setFlags_123 q0 x1 (5 : Int32) (0 : Int32) q15 h_q15
  ·
    exact d_k_Mo_setFlags_123 q0 x1 (5 : Int32) (1 : Int32) q15 h_q15
set_option maxHeartbeats 4000000 in
set_option maxRecDepth 100000 in
theorem m_k_Mo_setFlags_81 (q0 : z_Sg) (x1 : Int64) (t1 : Int32) (t2 : Int32) (q : z_Sg) (hq : z_pk q = z_pk q0) : z_po (k_Mo_setFlags_81 x1 t1 t2 q) (fun o : z_Sg => z_pk o = z_pk q0) := by
  unfold k_Mo_setFlags_81
  refine po_g (fun _ => ?_)
  refine po_n (fun q12 e_q12 => ?_)
  have h_q12 : z_pk q12 = z_pk q0 := by rw [e_q12]; exact hq
  refine po_i (fun _ => ?_) (fun _ => ?_)
  ·
    exact m_k_Mo_setFlags_102 q0 x1 (4 : Int32) (0 : Int32) q12 h_q12
  ·
    exact m_k_Mo_setFlags_102 q0 x1 (4 : Int32) (1 : Int32) q12 h_q12
set_option maxHeartbeats 4000000 in
set_option maxRecDepth 100000 in
theorem d_k_Mo_setFlags_81 (q0 : z_Sg) (x1 : Int64) (t1 : Int32) (t2 : Int32) (q : z_Sg) (hq : z_pn q = z_pn q0) : z_po (k_Mo_setFlags_81 x1 t1 t2 q) (fun o : z_Sg => z_pn o = z_pn q0) := by
  unfold k_Mo_setFlags_81
  refine po_g (fun _ => ?_)
  refine po_n (fun q12 e_q12 => ?_)
  have h_q12 : z_pn q12 = z_pn q0 := by rw [e_q12]; exact hq
  refine po_i (fun _ => ?_) (fun _ => ?_)
  ·
    exact d_k_Mo_setFlags_102 q0 x1 (4 : Int32) (0 : Int32) q12 h_q12
  ·
    exact d_k_Mo_setFlags_102 q0 x1 (4 : Int32) (1 : Int32) q12 h_q12
set_option maxHeartbeats 4000000 in
set_option maxRecDepth 100000 in
theorem m_k_Mo_setFlags_60 (q0 : z_Sg) (x1 : Int64) (t1 : Int32) (t2 : Int32) (q : z_Sg) (hq : z_pk q = z_pk q0) : z_po (k_Mo_setFlags_60 x1 t1 t2 q) (fun o : z_Sg => z_pk o = z_pk q0) := by
  unfold k_Mo_setFlags_60
  refine po_g (fun _ => ?_)
  refine po_n (fun q9 e_q9 => ?_)
  have h_q9 : z_pk q9 = z_pk q0 := by rw [e_q9]; exact hq
  refine po_i (fun _ => ?_) (fun _ => ?_)
  ·
    exact m_k_Mo_setFlags_81 q0 x1 (3 : Int32) (0 : Int32) q9 h_q9
  ·
    exact m_k_Mo_setFlags_81 q0 x1 (3 : Int32) (1 : Int32) q9 h_q9
set_option maxHeartbeats 4000000 in
set_option maxRecDepth 100000 in
theorem d_k_Mo_setFlags_60 (q0 : z_Sg) (x1 : Int64) (t1 : Int32) (t2 : Int32) (q : z_Sg) (hq : z_pn q = z_pn q0) : z_po (k_Mo_setFlags_60 x1 t1 t2 q) (fun o : z_Sg => z_pn o = z_pn q0) := by
  unfold k_Mo_setFlags_60
  refine po_g (fun _ => ?_)
  refine po_n (fun q9 e_q9 => ?_)
  have h_q9 : z_pn q9 = z_pn q0 := by rw [e_q9]; exact hq
  refine po_i (fun _ => ?_) (fun _ => ?_)
  ·
    exact d_k_Mo_setFlags_81 q0 x1 (3 : Int32) (0 : Int32) q9 h_q9
  ·
    exact d_k_Mo_setFlags_81 q0 x1 (3 : Int32) (1 : Int32) q9 h_q9
set_option maxHeartbeats 4000000 in
set_option maxRecDepth 100000 in
theorem m_k_Mo_setFlags_39 (q0 : z_Sg) (x1 : Int64) (t1 : Int32) (t2 : Int32) (q : z_Sg) (hq : z_pk q = z_pk q0) : z_po (k_Mo_setFlags_39 x1 t1 t2 q) (fun o : z_Sg => z_pk o = z_pk q0) := by
  unfold k_Mo_setFlags_39
  refine po_g (fun _ => ?_)
  refine po_n (fun q6 e_q6 => ?_)
  have h_q6 : z_pk q6 = z_pk q0 := by rw [e_q6]; exact hq
  refine po_i (fun _ => ?_) (fun _ => ?_)
  ·
    exact m_k_Mo_setFlags_60 q0 x1 (2 : Int32) (0 : Int32) q6 h_q6
  ·
    exact m_k_Mo_setFlags_60 q0 x1 (2 : Int32) (1 : Int32) q6 h_q6
set_option maxHeartbeats 4000000 in
set_option maxRecDepth 100000 in
theorem d_k_Mo_setFlags_39 (q0 : z_Sg) (x1 : Int64) (t1 : Int32) (t2 : Int32) (q : z_Sg) (hq : z_pn q = z_pn q0) : z_po (k_Mo_setFlags_39 x1 t1 t2 q) (fun o : z_Sg => z_pn o = z_pn q0) := by
  unfold k_Mo_setFlags_39
  refine po_g (fun _ => ?_)
  refine po_n (fun q6 e_q6 => ?_)
  have h_q6 : z_pn q6 = z_pn q0 := by rw [e_q6]; exact hq
  refine po_i (fun _ => ?_) (fun _ => ?_)
  ·
    exact d_k_Mo_setFlags_60 q0 x1 (2 : Int32) (0 : Int32) q6 h_q6
  ·
    exact d_k_Mo_setFlags_60 q0 x1 (2 : Int32) (1 : Int32) q6 h_q6
set_option maxHeartbeats 4000000 in
set_option maxRecDepth 100000 in
theorem m_k_Mo_setFlags_18 (q0 : z_Sg) (x1 : Int64) (t1 : Int32) (t2 : Int32) (q : z_Sg) (hq : z_pk q = z_pk q0) : z_po (k_Mo_setFlags_18 x1 t1 t2 q) (fun o : z_Sg => z_pk o = z_pk q0) := by
  unfold k_Mo_setFlags_18
  refine po_g (fun _ => ?_)
  refine po_n (fun q3 e_q3 => ?_)
  have h_q3 : z_pk q3 = z_pk q0 := by rw [e_q3]; exact hq
  refine po_i (fun _ => ?_) (fun _ => ?_)
  ·
    exact m_k_Mo_setFlags_39 q0 x1 (1 : Int32) (0 : Int32) q3 h_q3
  ·
    exact m_k_Mo_setFlags_39 q0 x1 (1 : Int32) (1 : Int32) q3 h_q3
set_option maxHeartbeats 4000000 in
set_option maxRecDepth 100000 in
theorem d_k_Mo_setFlags_18 (q0 : z_Sg) (x1 : Int64) (t1 : Int32) (t2 : Int32) (q : z_Sg) (hq : z_pn q = z_pn q0) : z_po (k_Mo_setFlags_18 x1 t1 t2 q) (fun o : z_Sg => z_pn o = z_pn q0) := by
  unfold k_Mo_setFlags_18
  refine po_g (fun _ => ?_)
  refine po_n (fun q3 e_q3 => ?_)
  have h_q3 : z_pn q3 = z_pn q0 := by rw [e_q3]; exact hq
  refine po_i (fun _ => ?_) (fun _ => ?_)
  ·
    exact d_k_Mo_setFlags_39 q0 x1 (1 : Int32) (0 : Int32) q3 h_q3
  ·
    exact d_k_Mo_setFlags_39 q0 x1 (1 : Int32) (1 : Int32) q3 h_q3
set_option maxHeartbeats 4000000 in
set_option maxRecDepth 100000 in
theorem m_f_Mo_setFlags (q0 : z_Sg) (x1 : Int64) (q : z_Sg) (hq : z_pk q = z_pk q0) : z_po (f_Mo_setFlags x1 q) (fun o : z_Sg => z_pk o = z_pk q0) := by
  unfold f_Mo_setFlags
  refine po_i (fun _ => ?_) (fun _ => ?_)
  ·
    exact m_k_Mo_setFlags_18 q0 x1 (0 : Int32) (0 : Int32) q hq
  ·
    exact m_k_Mo_setFlags_18 q0 x1 (0 : Int32) (1 : Int32) q hq
set_option maxHeartbeats 4000000 in
set_option maxRecDepth 100000 in
theorem d_f_Mo_setFlags (q0 : z_Sg) (x1 : Int64) (q : z_Sg) (hq : z_pn q = z_pn q0) : z_po (f_Mo_setFlags x1 q) (fun o : z_Sg => z_pn o = z_pn q0) := by
  unfold f_Mo_setFlags
  refine po_i (fun _ => ?_) (fun _ => ?_)
  ·
    exact d_k_Mo_setFlags_18 q0 x1 (0 : Int32) (0 : Int32) q hq
  ·
    exact d_k_Mo_setFlags_18 q0 x1 (0 : Int32) (1 : Int32) q hq
set_option maxHeartbeats 4000000 in
set_option maxRecDepth 100000 in
theorem m_k_Mo_find_379 (q0 : z_Sg) (t0 : Int64) (q : z_Sg) (hq : z_pk q = z_pk q0) : z_po (k_Mo_find_379 t0 q) (fun o : (Int64 × z_Sg) => z_pk o.2 = z_pk q0) := by
  unfold k_Mo_find_379
  exact po_s hq
set_option maxHeartbeats 4000000 in
set_option maxRecDepth 100000 in
theorem d_k_Mo_find_379 (q0 : z_Sg) (t0 : Int64) (q : z_Sg) (hq : z_pn q = z_pn q0) : z_po (k_Mo_find_379 t0 q) (fun o : (Int64 × z_Sg) => z_pn o.2 = z_pn q0) := by
  unfold k_Mo_find_379
  exact po_s hq
set_option maxHeartbeats 4000000 in
set_option maxRecDepth 100000 in
theorem m_k_Mo_find_340 (q0 : z_Sg) (x1 : Int64) (x5 : Int64) (x10 : Int32) (x11 : Int64) (q : z_Sg) (hq : z_pk q = z_pk q0) : z_po (k_Mo_find_340 x1 x5 x10 x11 q) (fun o : (Int64 × z_Sg) => z_pk o.2 = z_pk q0) := by
  unfold k_Mo_find_340
  refine po_i (fun _ => ?_) (fun _ => ?_)
  ·
    refine po_b (R := fun _ => True) (fun _ _ => trivial) (fun r14 _ => ?_)
    refine po_b (R := fun _ => True) (fun _ _ => trivial) (fun r15 _ => ?_)
    exact m_k_Mo_find_379 q0 ((z_lshl r14 (21 : Int32)) + r15) q hq
  ·
    refine po_b (R := fun _ => True) (fun _ _ => trivial) (fun r13 _ => ?_)
    exact m_k_Mo_find_379 q0 (x5 + r13) q hq
set_option maxHeartbeats 4000000 in
set_option maxRecDepth 100000 in
theorem d_k_Mo_find_340 (q0 : z_Sg) (x1 : Int64) (x5 : Int64) (x10 : Int32) (x11 : Int64) (q : z_Sg) (hq : z_pn q = z_pn q0) : z_po (k_Mo_find_340 x1 x5 x10 x11 q) (fun o : (Int64 × z_Sg) => z_pn o.2 = z_pn q0) := by
  unfold k_Mo_find_340
  refine po_i (fun _ => ?_) (fun _ => ?_)
  ·
    refine po_b (R := fun _ => True) (fun _ _ => trivial) (fun r14 _ => ?_)
    refine po_b (R := fun _ => True) (fun _ _ => trivial) (fun r15 _ => ?_)
    exact d_k_Mo_find_379 q0 ((z_lshl r14 (21 : Int32)) + r15) q hq
  ·
    refine po_b (R := fun _ => True) (fun _ _ => trivial) (fun r13 _ => ?_)
    exact d_k_Mo_find_379 q0 (x5 + r13) q hq
set_option maxHeartbeats 4000000 in
set_option maxRecDepth 100000 in
theorem m_k_Mo_find_336 (q0 : z_Sg) (q : z_Sg) (hq : z_pk q = z_pk q0) : z_po (k_Mo_find_336 q) (fun o : (Int64 × z_Sg) => z_pk o.2 = z_pk q0) := by
  unfold k_Mo_find_336
  exact po_s hq
set_option maxHeartbeats 4000000 in
set_option maxRecDepth 100000 in
theorem d_k_Mo_find_336 (q0 : z_Sg) (q : z_Sg) (hq : z_pn q = z_pn q0) : z_po (k_Mo_find_336 q) (fun o : (Int64 × z_Sg) => z_pn o.2 = z_pn q0) := by
  unfold k_Mo_find_336
  exact po_s hq
set_option maxHeartbeats 4000000 in
set_option maxRecDepth 100000 in
theorem m_k_Mo_find_326 (q0 : z_Sg) (x1 : Int64) (x3 : Int32) (x5 : Int64) (x9 : Int32) (x10 : Int32) (x11 : Int64) (q : z_Sg) (hq : z_pk q = z_pk q0) : z_po (k_Mo_find_326 x1 x3 x5 x9 x10 x11 q) (fun o : (Int64 × z_Sg) => z_pk o.2 = z_pk q0) := by
  unfold k_Mo_find_326
  refine po_i (fun _ => ?_) (fun _ => ?_)
  ·
    refine po_i (fun _ => ?_) (fun _ => ?_)
    ·
      exact m_k_Mo_find_336 q0 q hq
    ·
      exact m_k_Mo_find_340 q0 x1 x5 x10 x11 q hq
  ·
    exact m_k_Mo_find_340 q0 x1 x5 x10 x11 q hq
set_option maxHeartbeats 4000000 in
set_option maxRecDepth 100000 in
theorem d_k_Mo_find_326 (q0 : z_Sg) (x1 : Int64) (x3 : Int32) (x5 : Int64) (x9 : Int32) (x10 : Int32) (x11 : Int64) (q : z_Sg) (hq : z_pn q = z_pn q0) : z_po (k_Mo_find_326 x1 x3 x5 x9 x10 x11 q) (fun o : (Int64 × z_Sg) => z_pn o.2 = z_pn q0) := by
  unfold k_Mo_find_326
  refine po_i (fun _ => ?_) (fun _ => ?_)
  ·
    refine po_i (fun _ => ?_) (fun _ => ?_)
    ·
      exact d_k_Mo_find_336 q0 q hq
    ·
      exact d_k_Mo_find_340 q0 x1 x5 x10 x11 q hq
  ·
    exact d_k_Mo_find_340 q0 x1 x5 x10 x11 q hq
set_option maxHeartbeats 4000000 in
set_option maxRecDepth 100000 in
theorem m_k_Mo_find_314 (q0 : z_Sg) (x1 : Int64) (x3 : Int32) (x5 : Int64) (x8 : Int32) (x9 : Int32) (x10 : Int32) (x11 : Int64) (q : z_Sg) (hq : z_pk q = z_pk q0) : z_po (k_Mo_find_314 x1 x3 x5 x8 x9 x10 x11 q) (fun o : (Int64 × z_Sg) => z_pk o.2 = z_pk q0) := by
  unfold k_Mo_find_314
  refine po_i (fun _ => ?_) (fun _ => ?_)
  ·
    exact m_k_Mo_find_326 q0 x1 x3 x5 x9 x10 x11 q hq
  ·
    refine po_i (fun _ => ?_) (fun _ => ?_)
    ·
      exact m_k_Mo_find_336 q0 q hq
    ·
      exact m_k_Mo_find_326 q0 x1 x3 x5 x9 x10 x11 q hq
set_option maxHeartbeats 4000000 in
set_option maxRecDepth 100000 in
theorem d_k_Mo_find_314 (q0 : z_Sg) (x1 : Int64) (x3 : Int32) (x5 : Int64) (x8 : Int32) (x9 : Int32) (x10 : Int32) (x11 : Int64) (q : z_Sg) (hq : z_pn q = z_pn q0) : z_po (k_Mo_find_314 x1 x3 x5 x8 x9 x10 x11 q) (fun o : (Int64 × z_Sg) => z_pn o.2 = z_pn q0) := by
  unfold k_Mo_find_314
  refine po_i (fun _ => ?_) (fun _ => ?_)
  ·
    exact d_k_Mo_find_326 q0 x1 x3 x5 x9 x10 x11 q hq
  ·
    refine po_i (fun _ => ?_) (fun _ => ?_)
    ·
      exact d_k_Mo_find_336 q0 q hq
    ·
      exact d_k_Mo_find_326 q0 x1 x3 x5 x9 x10 x11 q hq
set_option maxHeartbeats 4000000 in
set_option maxRecDepth 100000 in
theorem m_k_Mo_find_293 (q0 : z_Sg) (ih71 : Int64 × Int32 × Int32 × Int64 × Int32 × Int32 × Int32 × Int32 × Int64 × Int32 × z_Sg → Option (Int64 × z_Sg)) (x1 : Int64) (x3 : Int32) (x4 : Int32) (x5 : Int64) (x7 : Int32) (x8 : Int32) (x9 : Int32) (x10 : Int32) (x11 : Int64) (x13 : Int32) (q : z_Sg) (h_ih71 : ∀ a : Int64 × Int32 × Int32 × Int64 × Int32 × Int32 × Int32 × Int32 × Int64 × Int32 × z_Sg, z_pk a.2.2.2.2.2.2.2.2.2.2 = z_pk q0 → z_po (ih71 a) (fun o : (Int64 × z_Sg) => z_pk o.2 = z_pk q0)) (hq : z_pk q = z_pk q0) : z_po (k_Mo_find_293 ih71 x1 x3 x4 x5 x7 x8 x9 x10 x11 x13 q) (fun o : (Int64 × z_Sg) => z_pk o.2 = z_pk q0) := by
  unfold k_Mo_find_293
  exact h_ih71 _ hq
set_option maxHeartbeats 4000000 in
set_option maxRecDepth 100000 in
theorem d_k_Mo_find_293 (q0 : z_Sg) (ih71 : Int64 × Int32 × Int32 × Int64 × Int32 × Int32 × Int32 × Int32 × Int64 × Int32 × z_Sg → Option (Int64 × z_Sg)) (x1 : Int64) (x3 : Int32) (x4 : Int32) (x5 : Int64) (x7 : Int32) (x8 : Int32) (x9 : Int32) (x10 : Int32) (x11 : Int64) (x13 : Int32) (q : z_Sg) (h_ih71 : ∀ a : Int64 × Int32 × Int32 × Int64 × Int32 × Int32 × Int32 × Int32 × Int64 × Int32 × z_Sg, z_pn a.2.2.2.2.2.2.2.2.2.2 = z_pn q0 → z_po (ih71 a) (fun o : (Int64 × z_Sg) => z_pn o.2 = z_pn q0)) (hq : z_pn q = z_pn q0) : z_po (k_Mo_find_293 ih71 x1 x3 x4 x5 x7 x8 x9 x10 x11 x13 q) (fun o : (Int64 × z_Sg) => z_pn o.2 = z_pn q0) := by
  unfold k_Mo_find_293
  exact h_ih71 _ hq
set_option maxHeartbeats 4000000 in
set_option maxRecDepth 100000 in
theorem m_k_Mo_find_283 (q0 : z_Sg) (ih71 : Int64 × Int32 × Int32 × Int64 × Int32 × Int32 × Int32 × Int32 × Int64 × Int32 × z_Sg → Option (Int64 × z_Sg)) (x1 : Int64) (x3 : Int32) (x4 : Int32) (x5 : Int64) (x7 : Int32) (x8 : Int32) (x9 : Int32) (x10 : Int32) (x11 : Int64) (t0 : Int32) (q : z_Sg) (h_ih71 : ∀ a : Int64 × Int32 × Int32 × Int64 × Int32 × Int32 × Int32 × Int32 × Int64 × Int32 × z_Sg, z_pk a.2.2.2.2.2.2.2.2.2.2 = z_pk q0 → z_po (ih71 a) (fun o : (Int64 × z_Sg) => z_pk o.2 = z_pk q0)) (hq : z_pk q = z_pk q0) : z_po (k_Mo_find_283 ih71 x1 x3 x4 x5 x7 x8 x9 x10 x11 t0 q) (fun o : (Int64 × z_Sg) => z_pk o.2 = z_pk q0) := by
  unfold k_Mo_find_283
  refine po_i (fun _ => ?_) (fun _ => ?_)
  ·
    refine po_n (fun n33 _ => ?_)
    exact m_k_Mo_find_293 q0 ih71 x1 x3 x4 x5 x7 x8 x9 n33 x11 t0 q h_ih71 hq
  ·
    exact m_k_Mo_find_293 q0 ih71 x1 x3 x4 x5 x7 x8 x9 x10 x11 t0 q h_ih71 hq
set_option maxHeartbeats 4000000 in
set_option maxRecDepth 100000 in
theorem d_k_Mo_find_283 (q0 : z_Sg) (ih71 : Int64 × Int32 × Int32 × Int64 × Int32 × Int32 × Int32 × Int32 × Int64 × Int32 × z_Sg → Option (Int64 × z_Sg)) (x1 : Int64) (x3 : Int32) (x4 : Int32) (x5 : Int64) (x7 : Int32) (x8 : Int32) (x9 : Int32) (x10 : Int32) (x11 : Int64) (t0 : Int32) (q : z_Sg) (h_ih71 : ∀ a : Int64 × Int32 × Int32 × Int64 × Int32 × Int32 × Int32 × Int32 × Int64 × Int32 × z_Sg, z_pn a.2.2.2.2.2.2.2.2.2.2 = z_pn q0 → z_po (ih71 a) (fun o : (Int64 × z_Sg) => z_pn o.2 = z_pn q0)) (hq : z_pn q = z_pn q0) : z_po (k_Mo_find_283 ih71 x1 x3 x4 x5 x7 x8 x9 x10 x11 t0 q) (fun o : (Int64 × z_Sg) => z_pn o.2 = z_pn q0) := by
  unfold k_Mo_find_283
  refine po_i (fun _ => ?_) (fun _ => ?_)
  ·
    refine po_n (fun n33 _ => ?_)
    exact d_k_Mo_find_293 q0 ih71 x1 x3 x4 x5 x7 x8 x9 n33 x11 t0 q h_ih71 hq
  ·
    exact d_k_Mo_find_293 q0 ih71 x1 x3 x4 x5 x7 x8 x9 x10 x11 t0 q h_ih71 hq
set_option maxHeartbeats 4000000 in
set_option maxRecDepth 100000 in
theorem m_k_Mo_find_278 (q0 : z_Sg) (ih71 : Int64 × Int32 × Int32 × Int64 × Int32 × Int32 × Int32 × Int32 × Int64 × Int32 × z_Sg → Option (Int64 × z_Sg)) (x1 : Int64) (x3 : Int32) (x4 : Int32) (x5 : Int64) (x7 : Int32) (x8 : Int32) (x9 : Int32) (x10 : Int32) (x11 : Int64) (q : z_Sg) (h_ih71 : ∀ a : Int64 × Int32 × Int32 × Int64 × Int32 × Int32 × Int32 × Int32 × Int64 × Int32 × z_Sg, z_pk a.2.2.2.2.2.2.2.2.2.2 = z_pk q0 → z_po (ih71 a) (fun o : (Int64 × z_Sg) => z_pk o.2 = z_pk q0)) (hq : z_pk q = z_pk q0) : z_po (k_Mo_find_278 ih71 x1 x3 x4 x5 x7 x8 x9 x10 x11 q) (fun o : (Int64 × z_Sg) => z_pk o.2 = z_pk q0) := by
  unfold k_Mo_find_278
  exact m_k_Mo_find_283 q0 ih71 x1 x3 x4 x5 x7 x8 x9 x10 x11 (1 : Int32) q h_ih71 hq
set_option maxHeartbeats 4000000 in
set_option maxRecDepth 100000 in
theorem d_k_Mo_find_278 (q0 : z_Sg) (ih71 : Int64 × Int32 × Int32 × Int64 × Int32 × Int32 × Int32 × Int32 × Int64 × Int32 × z_Sg → Option (Int64 × z_Sg)) (x1 : Int64) (x3 : Int32) (x4 : Int32) (x5 : Int64) (x7 : Int32) (x8 : Int32) (x9 : Int32) (x10 : Int32) (x11 : Int64) (q : z_Sg) (h_ih71 : ∀ a : Int64 × Int32 × Int32 × Int64 × Int32 × Int32 × Int32 × Int32 × Int64 × Int32 × z_Sg, z_pn a.2.2.2.2.2.2.2.2.2.2 = z_pn q0 → z_po (ih71 a) (fun o : (Int64 × z_Sg) => z_pn o.2 = z_pn q0)) (hq : z_pn q = z_pn q0) : z_po (k_Mo_find_278 ih71 x1 x3 x4 x5 x7 x8 x9 x10 x11 q) (fun o : (Int64 × z_Sg) => z_pn o.2 = z_pn q0) := by
  unfold k_Mo_find_278
  exact d_k_Mo_find_283 q0 ih71 x1 x3 x4 x5 x7 x8 x9 x10 x11 (1 : Int32) q h_ih71 hq
set_option maxHeartbeats 4000000 in
set_option maxRecDepth 100000 in
theorem m_k_Mo_find_252 (q0 : z_Sg) (ih71 : Int64 × Int32 × Int32 × Int64 × Int32 × Int32 × Int32 × Int32 × Int64 × Int32 × z_Sg → Option (Int64 × z_Sg)) (x1 : Int64) (x3 : Int32) (x4 : Int32) (x7 : Int32) (x8 : Int32) (x10 : Int32) (x11 : Int64) (x14 : Int32) (t0 : Int32) (q : z_Sg) (h_ih71 : ∀ a : Int64 × Int32 × Int32 × Int64 × Int32 × Int32 × Int32 × Int32 × Int64 × Int32 × z_Sg, z_pk a.2.2.2.2.2.2.2.2.2.2 = z_pk q0 → z_po (ih71 a) (fun o : (Int64 × z_Sg) => z_pk o.2 = z_pk q0)) (hq : z_pk q = z_pk q0) : z_po (k_Mo_find_252 ih71 x1 x3 x4 x7 x8 x10 x11 x14 t0 q) (fun o : (Int64 × z_Sg) => z_pk o.2 = z_pk q0) := by
  unfold k_Mo_find_252
  refine po_b (R := fun _ => True) (fun _ _ => trivial) (fun r29 _ => ?_)
  refine po_n (fun n30 _ => ?_)
  refine po_i (fun _ => ?_) (fun _ => ?_)
  ·
    refine po_i (fun _ => ?_) (fun _ => ?_)
    ·
      exact m_k_Mo_find_278 q0 ih71 x1 x3 x4 n30 x7 x8 t0 x10 x11 q h_ih71 hq
    ·
      exact m_k_Mo_find_283 q0 ih71 x1 x3 x4 n30 x7 x8 t0 x10 x11 (0 : Int32) q h_ih71 hq
  ·
    exact m_k_Mo_find_278 q0 ih71 x1 x3 x4 n30 x7 x8 t0 x10 x11 q h_ih71 hq
set_option maxHeartbeats 4000000 in
set_option maxRecDepth 100000 in
theorem d_k_Mo_find_252 (q0 : z_Sg) (ih71 : Int64 × Int32 × Int32 × Int64 × Int32 × Int32 × Int32 × Int32 × Int64 × Int32 × z_Sg → Option (Int64 × z_Sg)) (x1 : Int64) (x3 : Int32) (x4 : Int32) (x7 : Int32) (x8 : Int32) (x10 : Int32) (x11 : Int64) (x14 : Int32) (t0 : Int32) (q : z_Sg) (h_ih71 : ∀ a : Int64 × Int32 × Int32 × Int64 × Int32 × Int32 × Int32 × Int32 × Int64 × Int32 × z_Sg, z_pn a.2.2.2.2.2.2.2.2.2.2 = z_pn q0 → z_po (ih71 a) (fun o : (Int64 × z_Sg) => z_pn o.2 = z_pn q0)) (hq : z_pn q = z_pn q0) : z_po (k_Mo_find_252 ih71 x1 x3 x4 x7 x8 x10 x11 x14 t0 q) (fun o : (Int64 × z_Sg) => z_pn o.2 = z_pn q0) := by
  unfold k_Mo_find_252
  refine po_b (R := fun _ => True) (fun _ _ => trivial) (fun r29 _ => ?_)
  refine po_n (fun n30 _ => ?_)
  refine po_i (fun _ => ?_) (fun _ => ?_)
  ·
    refine po_i (fun _ => ?_) (fun _ => ?_)
    ·
      exact d_k_Mo_find_278 q0 ih71 x1 x3 x4 n30 x7 x8 t0 x10 x11 q h_ih71 hq
    ·
      exact d_k_Mo_find_283 q0 ih71 x1 x3 x4 n30 x7 x8 t0 x10 x11 (0 : Int32) q h_ih71 hq
  ·
    exact d_k_Mo_find_278 q0 ih71 x1 x3 x4 n30 x7 x8 t0 x10 x11 q h_ih71 hq
set_option maxHeartbeats 4000000 in
set_option maxRecDepth 100000 in
theorem m_k_Mo_find_251 (q0 : z_Sg) (ih71 : Int64 × Int32 × Int32 × Int64 × Int32 × Int32 × Int32 × Int32 × Int64 × Int32 × z_Sg → Option (Int64 × z_Sg)) (x1 : Int64) (x3 : Int32) (x4 : Int32) (x7 : Int32) (x8 : Int32) (x10 : Int32) (x11 : Int64) (x14 : Int32) (q : z_Sg) (h_ih71 : ∀ a : Int64 × Int32 × Int32 × Int64 × Int32 × Int32 × Int32 × Int32 × Int64 × Int32 × z_Sg, z_pk a.2.2.2.2.2.2.2.2.2.2 = z_pk q0 → z_po (ih71 a) (fun o : (Int64 × z_Sg) => z_pk o.2 = z_pk q0)) (hq : z_pk q = z_pk q0) : z_po (k_Mo_find_251 ih71 x1 x3 x4 x7 x8 x10 x11 x14 q) (fun o : (Int64 × z_Sg) => z_pk o.2 = z_pk q0) := by
  unfold k_Mo_find_251
  exact m_k_Mo_find_252 q0 ih71 x1 x3 x4 x7 x8 x10 x11 x14 (0 : Int32) q h_ih71 hq
set_option maxHeartbeats 4000000 in
set_option maxRecDepth 100000 in
theorem d_k_Mo_find_251 (q0 : z_Sg) (ih71 : Int64 × Int32 × Int32 × Int64 × Int32 × Int32 × Int32 × Int32 × Int64 × Int32 × z_Sg → Option (Int64 × z_Sg)) (x1 : Int64) (x3 : Int32) (x4 : Int32) (x7 : Int32) (x8 : Int32) (x10 : Int32) (x11 : Int64) (x14 : Int32) (q : z_Sg) (h_ih71 : ∀ a : Int64 × Int32 × Int32 × Int64 × Int32 × Int32 × Int32 × Int32 × Int64 × Int32 × z_Sg, z_pn a.2.2.2.2.2.2.2.2.2.2 = z_pn q0 → z_po (ih71 a) (fun o : (Int64 × z_Sg) => z_pn o.2 = z_pn q0)) (hq : z_pn q = z_pn q0) : z_po (k_Mo_find_251 ih71 x1 x3 x4 x7 x8 x10 x11 x14 q) (fun o : (Int64 × z_Sg) => z_pn o.2 = z_pn q0) := by
  unfold k_Mo_find_251
  exact d_k_Mo_find_252 q0 ih71 x1 x3 x4 x7 x8 x10 x11 x14 (0 : Int32) q h_ih71 hq
set_option maxHeartbeats 4000000 in
set_option maxRecDepth 100000 in
theorem m_k_Mo_find_233 (q0 : z_Sg) (ih71 : Int64 × Int32 × Int32 × Int64 × Int32 × Int32 × Int32 × Int32 × Int64 × Int32 × z_Sg → Option (Int64 × z_Sg)) (x1 : Int64) (x3 : Int32) (x4 : Int32) (x7 : Int32) (x9 : Int32) (x10 : Int32) (x11 : Int64) (x14 : Int32) (t0 : Int32) (q : z_Sg) (h_ih71 : ∀ a : Int64 × Int32 × Int32 × Int64 × Int32 × Int32 × Int32 × Int32 × Int64 × Int32 × z_Sg, z_pk a.2.2.2.2.2.2.2.2.2.2 = z_pk q0 → z_po (ih71 a) (fun o : (Int64 × z_Sg) => z_pk o.2 = z_pk q0)) (hq : z_pk q = z_pk q0) : z_po (k_Mo_find_233 ih71 x1 x3 x4 x7 x9 x10 x11 x14 t0 q) (fun o : (Int64 × z_Sg) => z_pk o.2 = z_pk q0) := by
  unfold k_Mo_find_233
  refine po_i (fun _ => ?_) (fun _ => ?_)
  ·
    exact m_k_Mo_find_251 q0 ih71 x1 x3 x4 x7 t0 x10 x11 x14 q h_ih71 hq
  ·
    refine po_i (fun _ => ?_) (fun _ => ?_)
    ·
      exact m_k_Mo_find_251 q0 ih71 x1 x3 x4 x7 t0 x10 x11 x14 q h_ih71 hq
    ·
      exact m_k_Mo_find_252 q0 ih71 x1 x3 x4 x7 t0 x10 x11 x14 (1 : Int32) q h_ih71 hq
set_option maxHeartbeats 4000000 in
set_option maxRecDepth 100000 in
theorem d_k_Mo_find_233 (q0 : z_Sg) (ih71 : Int64 × Int32 × Int32 × Int64 × Int32 × Int32 × Int32 × Int32 × Int64 × Int32 × z_Sg → Option (Int64 × z_Sg)) (x1 : Int64) (x3 : Int32) (x4 : Int32) (x7 : Int32) (x9 : Int32) (x10 : Int32) (x11 : Int64) (x14 : Int32) (t0 : Int32) (q : z_Sg) (h_ih71 : ∀ a : Int64 × Int32 × Int32 × Int64 × Int32 × Int32 × Int32 × Int32 × Int64 × Int32 × z_Sg, z_pn a.2.2.2.2.2.2.2.2.2.2 = z_pn q0 → z_po (ih71 a) (fun o : (Int64 × z_Sg) => z_pn o.2 = z_pn q0)) (hq : z_pn q = z_pn q0) : z_po (k_Mo_find_233 ih71 x1 x3 x4 x7 x9 x10 x11 x14 t0 q) (fun o : (Int64 × z_Sg) => z_pn o.2 = z_pn q0) := by
  unfold k_Mo_find_233
  refine po_i (fun _ => ?_) (fun _ => ?_)
  ·
    exact d_k_Mo_find_251 q0 ih71 x1 x3 x4 x7 t0 x10 x11 x14 q h_ih71 hq
  ·
    refine po_i (fun _ => ?_) (fun _ => ?_)
    ·
      exact d_k_Mo_find_251 q0 ih71 x1 x3 x4 x7 t0 x10 x11 x14 q h_ih71 hq
    ·
      exact d_k_Mo_find_252 q0 ih71 x1 x3 x4 x7 t0 x10 x11 x14 (1 : Int32) q h_ih71 hq
set_option maxHeartbeats 4000000 in
set_option maxRecDepth 100000 in
theorem m_k_Mo_find_232 (q0 : z_Sg) (ih71 : Int64 × Int32 × Int32 × Int64 × Int32 × Int32 × Int32 × Int32 × Int64 × Int32 × z_Sg → Option (Int64 × z_Sg)) (x1 : Int64) (x3 : Int32) (x4 : Int32) (x7 : Int32) (x9 : Int32) (x10 : Int32) (x11 : Int64) (x14 : Int32) (q : z_Sg) (h_ih71 : ∀ a : Int64 × Int32 × Int32 × Int64 × Int32 × Int32 × Int32 × Int32 × Int64 × Int32 × z_Sg, z_pk a.2.2.2.2.2.2.2.2.2.2 = z_pk q0 → z_po (ih71 a) (fun o : (Int64 × z_Sg) => z_pk o.2 = z_pk q0)) (hq : z_pk q = z_pk q0) : z_po (k_Mo_find_232 ih71 x1 x3 x4 x7 x9 x10 x11 x14 q) (fun o : (Int64 × z_Sg) => z_pk o.2 = z_pk q0) := by
  unfold k_Mo_find_232
  exact m_k_Mo_find_233 q0 ih71 x1 x3 x4 x7 x9 x10 x11 x14 (0 : Int32) q h_ih71 hq
set_option maxHeartbeats 4000000 in
set_option maxRecDepth 100000 in
theorem d_k_Mo_find_232 (q0 : z_Sg) (ih71 : Int64 × Int32 × Int32 × Int64 × Int32 × Int32 × Int32 × Int32 × Int64 × Int32 × z_Sg → Option (Int64 × z_Sg)) (x1 : Int64) (x3 : Int32) (x4 : Int32) (x7 : Int32) (x9 : Int32) (x10 : Int32) (x11 : Int64) (x14 : Int32) (q : z_Sg) (h_ih71 : ∀ a : Int64 × Int32 × Int32 × Int64 × Int32 × Int32 × Int32 × Int32 × Int64 × Int32 × z_Sg, z_pn a.2.2.2.2.2.2.2.2.2.2 = z_pn q0 → z_po (ih71 a) (fun o : (Int64 × z_Sg) => z_pn o.2 = z_pn q0)) (hq : z_pn q = z_pn q0) : z_po (k_Mo_find_232 ih71 x1 x3 x4 x7 x9 x10 x11 x14 q) (fun o : (Int64 × z_Sg) => z_pn o.2 = z_pn q0) := by
  unfold k_Mo_find_232
  exact d_k_Mo_find_233 q0 ih71 x1 x3 x4 x7 x9 x10 x11 x14 (0 : Int32) q h_ih71 hq
set_option maxHeartbeats 4000000 in
set_option maxRecDepth 100000 in
theorem m_k_Mo_find_210 (q0 : z_Sg) (ih71 : Int64 × Int32 × Int32 × Int64 × Int32 × Int32 × Int32 × Int32 × Int64 × Int32 × z_Sg → Option (Int64 × z_Sg)) (x1 : Int64) (x3 : Int32) (x4 : Int32) (x8 : Int32) (x9 : Int32) (x10 : Int32) (x11 : Int64) (x14 : Int32) (t0 : Int32) (q : z_Sg) (h_ih71 : ∀ a : Int64 × Int32 × Int32 × Int64 × Int32 × Int32 × Int32 × Int32 × Int64 × Int32 × z_Sg, z_pk a.2.2.2.2.2.2.2.2.2.2 = z_pk q0 → z_po (ih71 a) (fun o : (Int64 × z_Sg) => z_pk o.2 = z_pk q0)) (hq : z_pk q = z_pk q0) : z_po (k_Mo_find_210 ih71 x1 x3 x4 x8 x9 x10 x11 x14 t0 q) (fun o : (Int64 × z_Sg) => z_pk o.2 = z_pk q0) := by
  unfold k_Mo_find_210
  refine po_i (fun _ => ?_) (fun _ => ?_)
  ·
    exact m_k_Mo_find_232 q0 ih71 x1 x3 x4 t0 x9 x10 x11 x14 q h_ih71 hq
  ·
    refine po_i (fun _ => ?_) (fun _ => ?_)
    ·
      exact m_k_Mo_find_232 q0 ih71 x1 x3 x4 t0 x9 x10 x11 x14 q h_ih71 hq
    ·
      exact m_k_Mo_find_233 q0 ih71 x1 x3 x4 t0 x9 x10 x11 x14 (1 : Int32) q h_ih71 hq
set_option maxHeartbeats 4000000 in
set_option maxRecDepth 100000 in
theorem d_k_Mo_find_210 (q0 : z_Sg) (ih71 : Int64 × Int32 × Int32 × Int64 × Int32 × Int32 × Int32 × Int32 × Int64 × Int32 × z_Sg → Option (Int64 × z_Sg)) (x1 : Int64) (x3 : Int32) (x4 : Int32) (x8 : Int32) (x9 : Int32) (x10 : Int32) (x11 : Int64) (x14 : Int32) (t0 : Int32) (q : z_Sg) (h_ih71 : ∀ a : Int64 × Int32 × Int32 × Int64 × Int32 × Int32 × Int32 × Int32 × Int64 × Int32 × z_Sg, z_pn a.2.2.2.2.2.2.2.2.2.2 = z_pn q0 → z_po (ih71 a) (fun o : (Int64 × z_Sg) => z_pn o.2 = z_pn q0)) (hq : z_pn q = z_pn q0) : z_po (k_Mo_find_210 ih71 x1 x3 x4 x8 x9 x10 x11 x14 t0 q) (fun o : (Int64 × z_Sg) => z_pn o.2 = z_pn q0) := by
  unfold k_Mo_find_210
  refine po_i (fun _ => ?_) (fun _ => ?_)
  ·
    exact d_k_Mo_find_232 q0 ih71 x1 x3 x4 t0 x9 x10 x11 x14 q h_ih71 hq
  ·
    refine po_i (fun _ => ?_) (fun _ => ?_)
    ·
      exact d_k_Mo_find_232 q0 ih71 x1 x3 x4 t0 x9 x10 x11 x14 q h_ih71 hq
    ·
      exact d_k_Mo_find_233 q0 ih71 x1 x3 x4 t0 x9 x10 x11 x14 (1 : Int32) q h_ih71 hq
set_option maxHeartbeats 4000000 in
set_option maxRecDepth 100000 in
theorem m_k_Mo_find_209 (q0 : z_Sg) (ih71 : Int64 × Int32 × Int32 × Int64 × Int32 × Int32 × Int32 × Int32 × Int64 × Int32 × z_Sg → Option (Int64 × z_Sg)) (x1 : Int64) (x3 : Int32) (x4 : Int32) (x8 : Int32) (x9 : Int32) (x10 : Int32) (x11 : Int64) (x14 : Int32) (q : z_Sg) (h_ih71 : ∀ a : Int64 × Int32 × Int32 × Int64 × Int32 × Int32 × Int32 × Int32 × Int64 × Int32 × z_Sg, z_pk a.2.2.2.2.2.2.2.2.2.2 = z_pk q0 → z_po (ih71 a) (fun o : (Int64 × z_Sg) => z_pk o.2 = z_pk q0)) (hq : z_pk q = z_pk q0) : z_po (k_Mo_find_209 ih71 x1 x3 x4 x8 x9 x10 x11 x14 q) (fun o : (Int64 × z_Sg) => z_pk o.2 = z_pk q0) := by
  unfold k_Mo_find_209
  exact m_k_Mo_find_210 q0 ih71 x1 x3 x4 x8 x9 x10 x11 x14 (0 : Int32) q h_ih71 hq
set_option maxHeartbeats 4000000 in
set_option maxRecDepth 100000 in
theorem d_k_Mo_find_209 (q0 : z_Sg) (ih71 : Int64 × Int32 × Int32 × Int64 × Int32 × Int32 × Int32 × Int32 × Int64 × Int32 × z_Sg → Option (Int64 × z_Sg)) (x1 : Int64) (x3 : Int32) (x4 : Int32) (x8 : Int32) (x9 : Int32) (x10 : Int32) (x11 : Int64) (x14 : Int32) (q : z_Sg) (h_ih71 : ∀ a : Int64 × Int32 × Int32 × Int64 × Int32 × Int32 × Int32 × Int32 × Int64 × Int32 × z_Sg, z_pn a.2.2.2.2.2.2.2.2.2.2 = z_pn q0 → z_po (ih71 a) (fun o : (Int64 × z_Sg) => z_pn o.2 = z_pn q0)) (hq : z_pn q = z_pn q0) : z_po (k_Mo_find_209 ih71 x1 x3 x4 x8 x9 x10 x11 x14 q) (fun o : (Int64 × z_Sg) => z_pn o.2 = z_pn q0) := by
  unfold k_Mo_find_209
  exact d_k_Mo_find_210 q0 ih71 x1 x3 x4 x8 x9 x10 x11 x14 (0 : Int32) q h_ih71 hq
set_option maxHeartbeats 4000000 in
set_option maxRecDepth 100000 in
theorem m_k_Mo_find_189 (q0 : z_Sg) (ih71 : Int64 × Int32 × Int32 × Int64 × Int32 × Int32 × Int32 × Int32 × Int64 × Int32 × z_Sg → Option (Int64 × z_Sg)) (x1 : Int64) (x3 : Int32) (x4 : Int32) (x7 : Int32) (x8 : Int32) (x9 : Int32) (x10 : Int32) (x11 : Int64) (x14 : Int32) (q : z_Sg) (h_ih71 : ∀ a : Int64 × Int32 × Int32 × Int64 × Int32 × Int32 × Int32 × Int32 × Int64 × Int32 × z_Sg, z_pk a.2.2.2.2.2.2.2.2.2.2 = z_pk q0 → z_po (ih71 a) (fun o : (Int64 × z_Sg) => z_pk o.2 = z_pk q0)) (hq : z_pk q = z_pk q0) : z_po (k_Mo_find_189 ih71 x1 x3 x4 x7 x8 x9 x10 x11 x14 q) (fun o : (Int64 × z_Sg) => z_pk o.2 = z_pk q0) := by
  unfold k_Mo_find_189
  refine po_i (fun _ => ?_) (fun _ => ?_)
  ·
    exact m_k_Mo_find_209 q0 ih71 x1 x3 x4 x8 x9 x10 x11 x14 q h_ih71 hq
  ·
    refine po_i (fun _ => ?_) (fun _ => ?_)
    ·
      exact m_k_Mo_find_209 q0 ih71 x1 x3 x4 x8 x9 x10 x11 x14 q h_ih71 hq
    ·
      exact m_k_Mo_find_210 q0 ih71 x1 x3 x4 x8 x9 x10 x11 x14 (1 : Int32) q h_ih71 hq
set_option maxHeartbeats 4000000 in
set_option maxRecDepth 100000 in
theorem d_k_Mo_find_189 (q0 : z_Sg) (ih71 : Int64 × Int32 × Int32 × Int64 × Int32 × Int32 × Int32 × Int32 × Int64 × Int32 × z_Sg → Option (Int64 × z_Sg)) (x1 : Int64) (x3 : Int32) (x4 : Int32) (x7 : Int32) (x8 : Int32) (x9 : Int32) (x10 : Int32) (x11 : Int64) (x14 : Int32) (q : z_Sg) (h_ih71 : ∀ a : Int64 × Int32 × Int32 × Int64 × Int32 × Int32 × Int32 × Int32 × Int64 × Int32 × z_Sg, z_pn a.2.2.2.2.2.2.2.2.2.2 = z_pn q0 → z_po (ih71 a) (fun o : (Int64 × z_Sg) => z_pn o.2 = z_pn q0)) (hq : z_pn q = z_pn q0) : z_po (k_Mo_find_189 ih71 x1 x3 x4 x7 x8 x9 x10 x11 x14 q) (fun o : (Int64 × z_Sg) => z_pn o.2 = z_pn q0) := by
  unfold k_Mo_find_189
  refine po_i (fun _ => ?_) (fun _ => ?_)
  ·
    exact d_k_Mo_find_209 q0 ih71 x1 x3 x4 x8 x9 x10 x11 x14 q h_ih71 hq
  ·
    refine po_i (fun _ => ?_) (fun _ => ?_)
    ·
      exact d_k_Mo_find_209 q0 ih71 x1 x3 x4 x8 x9 x10 x11 x14 q h_ih71 hq
    ·
      exact d_k_Mo_find_210 q0 ih71 x1 x3 x4 x8 x9 x10 x11 x14 (1 : Int32) q h_ih71 hq
set_option maxHeartbeats 4000000 in
set_option maxRecDepth 100000 in
theorem m_k_Mo_find_185 (q0 : z_Sg) (q : z_Sg) (hq : z_pk q = z_pk q0) : z_po (k_Mo_find_185 q) (fun o : (Int64 × z_Sg) => z_pk o.2 = z_pk q0) := by
  unfold k_Mo_find_185
  exact po_s hq
set_option maxHeartbeats 4000000 in
set_option maxRecDepth 100000 in
theorem d_k_Mo_find_185 (q0 : z_Sg) (q : z_Sg) (hq : z_pn q = z_pn q0) : z_po (k_Mo_find_185 q) (fun o : (Int64 × z_Sg) => z_pn o.2 = z_pn q0) := by
  unfold k_Mo_find_185
  exact po_s hq
set_option maxHeartbeats 4000000 in
set_option maxRecDepth 100000 in
theorem m_k_Mo_find_130 (q0 : z_Sg) (ih71 : Int64 × Int32 × Int32 × Int64 × Int32 × Int32 × Int32 × Int32 × Int64 × Int32 × z_Sg → Option (Int64 × z_Sg)) (x1 : Int64) (x3 : Int32) (x4 : Int32) (x7 : Int32) (x8 : Int32) (x9 : Int32) (x10 : Int32) (x11 : Int64) (t0 : Int32) (q : z_Sg) (h_ih71 : ∀ a : Int64 × Int32 × Int32 × Int64 × Int32 × Int32 × Int32 × Int32 × Int64 × Int32 × z_Sg, z_pk a.2.2.2.2.2.2.2.2.2.2 = z_pk q0 → z_po (ih71 a) (fun o : (Int64 × z_Sg) => z_pk o.2 = z_pk q0)) (hq : z_pk q = z_pk q0) : z_po (k_Mo_find_130 ih71 x1 x3 x4 x7 x8 x9 x10 x11 t0 q) (fun o : (Int64 × z_Sg) => z_pk o.2 = z_pk q0) := by
  unfold k_Mo_find_130
  refine po_n (fun q22 e_q22 => ?_)
  have h_q22 : z_pk q22 = z_pk q0 := by rw [e_q22]; exact hq
  refine po_i (fun _ => ?_) (fun _ => ?_)
  ·
    exact po_s h_q22
  ·
    refine po_n (fun q24 e_q24 => ?_)
    have h_q24 : z_pk q24 = z_pk q0 := by rw [e_q24]; exact h_q22
    refine po_i (fun _ => ?_) (fun _ => ?_)
    ·
      exact m_k_Mo_find_189 q0 ih71 x1 x3 x4 x7 x8 x9 x10 x11 t0 q24 h_ih71 h_q24
    ·
      refine po_i (fun _ => ?_) (fun _ => ?_)
      ·
        exact m_k_Mo_find_185 q0 q24 h_q24
      ·
        refine po_b (R := fun _ => True) (fun _ _ => trivial) (fun r39 _ => ?_)
        refine po_i (fun _ => ?_) (fun _ => ?_)
        ·
          exact m_k_Mo_find_189 q0 ih71 x1 x3 x4 x7 x8 x9 x10 x11 t0 q24 h_ih71 h_q24
        ·
          exact m_k_Mo_find_185 q0 q24 h_q24
set_option maxHeartbeats 4000000 in
set_option maxRecDepth 100000 in
theorem d_k_Mo_find_130 (q0 : z_Sg) (ih71 : Int64 × Int32 × Int32 × Int64 × Int32 × Int32 × Int32 × Int32 × Int64 × Int32 × z_Sg → Option (Int64 × z_Sg)) (x1 : Int64) (x3 : Int32) (x4 : Int32) (x7 : Int32) (x8 : Int32) (x9 : Int32) (x10 : Int32) (x11 : Int64) (t0 : Int32) (q : z_Sg) (h_ih71 : ∀ a : Int64 × Int32 × Int32 × Int64 × Int32 × Int32 × Int32 × Int32 × Int64 × Int32 × z_Sg, z_pn a.2.2.2.2.2.2.2.2.2.2 = z_pn q0 → z_po (ih71 a) (fun o : (Int64 × z_Sg) => z_pn o.2 = z_pn q0)) (hq : z_pn q = z_pn q0) : z_po (k_Mo_find_130 ih71 x1 x3 x4 x7 x8 x9 x10 x11 t0 q) (fun o : (Int64 × z_Sg) => z_pn o.2 = z_pn q0) := by
  unfold k_Mo_find_130
  refine po_n (fun q22 e_q22 => ?_)
  have h_q22 : z_pn q22 = z_pn q0 := by rw [e_q22]; exact hq
  refine po_i (fun _ => ?_) (fun _ => ?_)
  ·
    exact po_s h_q22
  ·
    refine po_n (fun q24 e_q24 => ?_)
    have h_q24 : z_pn q24 = z_pn q0 := by rw [e_q24]; exact h_q22
    refine po_i (fun _ => ?_) (fun _ => ?_)
    ·
      exact d_k_Mo_find_189 q0 ih71 x1 x3 x4 x7 x8 x9 x10 x11 t0 q24 h_ih71 h_q24
    ·
      refine po_i (fun _ => ?_) (fun _ => ?_)
      ·
        exact d_k_Mo_find_185 q0 q24 h_q24
      ·
        refine po_b (R := fun _ => True) (fun _ _ => trivial) (fun r39 _ => ?_)
        refine po_i (fun _ => ?_) (fun _ => ?_)
        ·
          exact d_k_Mo_find_189 q0 ih71 x1 x3 x4 x7 x8 x9 x10 x11 t0 q24 h_ih71 h_q24
        ·
          exact d_k_Mo_find_185 q0 q24 h_q24
set_option maxHeartbeats 4000000 in
set_option maxRecDepth 100000 in
theorem m_k_Mo_find_129 (q0 : z_Sg) (ih71 : Int64 × Int32 × Int32 × Int64 × Int32 × Int32 × Int32 × Int32 × Int64 × Int32 × z_Sg → Option (Int64 × z_Sg)) (x1 : Int64) (x3 : Int32) (x4 : Int32) (x7 : Int32) (x8 : Int32) (x9 : Int32) (x10 : Int32) (x11 : Int64) (q : z_Sg) (h_ih71 : ∀ a : Int64 × Int32 × Int32 × Int64 × Int32 × Int32 × Int32 × Int32 × Int64 × Int32 × z_Sg, z_pk a.2.2.2.2.2.2.2.2.2.2 = z_pk q0 → z_po (ih71 a) (fun o : (Int64 × z_Sg) => z_pk o.2 = z_pk q0)) (hq : z_pk q = z_pk q0) : z_po (k_Mo_find_129 ih71 x1 x3 x4 x7 x8 x9 x10 x11 q) (fun o : (Int64 × z_Sg) => z_pk o.2 = z_pk q0) := by
  unfold k_Mo_find_129
  exact m_k_Mo_find_130 q0 ih71 x1 x3 x4 x7 x8 x9 x10 x11 (0 : Int32) q h_ih71 hq
set_option maxHeartbeats 4000000 in
set_option maxRecDepth 100000 in
theorem d_k_Mo_find_129 (q0 : z_Sg) (ih71 : Int64 × Int32 × Int32 × Int64 × Int32 × Int32 × Int32 × Int32 × Int64 × Int32 × z_Sg → Option (Int64 × z_Sg)) (x1 : Int64) (x3 : Int32) (x4 : Int32) (x7 : Int32) (x8 : Int32) (x9 : Int32) (x10 : Int32) (x11 : Int64) (q : z_Sg) (h_ih71 : ∀ a : Int64 × Int32 × Int32 × Int64 × Int32 × Int32 × Int32 × Int32 × Int64 × Int32 × z_Sg, z_pn a.2.2.2.2.2.2.2.2.2.2 = z_pn q0 → z_po (ih71 a) (fun o : (Int64 × z_Sg) => z_pn o.2 = z_pn q0)) (hq : z_pn q = z_pn q0) : z_po (k_Mo_find_129 ih71 x1 x3 x4 x7 x8 x9 x10 x11 q) (fun o : (Int64 × z_Sg) => z_pn o.2 = z_pn q0) := by
  unfold k_Mo_find_129
  exact d_k_Mo_find_130 q0 ih71 x1 x3 x4 x7 x8 x9 x10 x11 (0 : Int32) q h_ih71 hq
set_option maxHeartbeats 4000000 in
set_option maxRecDepth 100000 in
theorem m_kb_Mo_find_71 (q0 : z_Sg) (ih71 : Int64 × Int32 × Int32 × Int64 × Int32 × Int32 × Int32 × Int32 × Int64 × Int32 × z_Sg → Option (Int64 × z_Sg)) (x1 : Int64) (x3 : Int32) (x4 : Int32) (x5 : Int64) (x7 : Int32) (x8 : Int32) (x9 : Int32) (x10 : Int32) (x11 : Int64) (x13 : Int32) (q : z_Sg) (h_ih71 : ∀ a : Int64 × Int32 × Int32 × Int64 × Int32 × Int32 × Int32 × Int32 × Int64 × Int32 × z_Sg, z_pk a.2.2.2.2.2.2.2.2.2.2 = z_pk q0 → z_po (ih71 a) (fun o : (Int64 × z_Sg) => z_pk o.2 = z_pk q0)) (hq : z_pk q = z_pk q0) : z_po (kb_Mo_find_71 ih71 x1 x3 x4 x5 x7 x8 x9 x10 x11 x13 q) (fun o : (Int64 × z_Sg) => z_pk o.2 = z_pk q0) := by
  unfold kb_Mo_find_71
  refine po_i (fun _ => ?_) (fun _ => ?_)
  ·
    refine po_b (R := fun _ => True) (fun _ _ => trivial) (fun r19 _ => ?_)
    refine po_b (R := fun _ => True) (fun _ _ => trivial) (fun r20 _ => ?_)
    refine po_i (fun _ => ?_) (fun _ => ?_)
    ·
      exact m_k_Mo_find_129 q0 ih71 x1 x3 x4 x7 x8 x9 x10 r20 q h_ih71 hq
    ·
      refine po_i (fun _ => ?_) (fun _ => ?_)
      ·
        exact m_k_Mo_find_129 q0 ih71 x1 x3 x4 x7 x8 x9 x10 r20 q h_ih71 hq
      ·
        exact m_k_Mo_find_130 q0 ih71 x1 x3 x4 x7 x8 x9 x10 r20 (1 : Int32) q h_ih71 hq
  ·
    refine po_n (fun q8 e_q8 => ?_)
    have h_q8 : z_pk q8 = z_pk q0 := by rw [e_q8]; exact hq
    refine po_i (fun _ => ?_) (fun _ => ?_)
    ·
      refine po_i (fun _ => ?_) (fun _ => ?_)
      ·
        exact m_k_Mo_find_336 q0 q8 h_q8
      ·
        exact m_k_Mo_find_314 q0 x1 x3 x5 x8 x9 x10 x11 q8 h_q8
    ·
      exact m_k_Mo_find_314 q0 x1 x3 x5 x8 x9 x10 x11 q8 h_q8
set_option maxHeartbeats 4000000 in
set_option maxRecDepth 100000 in
theorem d_kb_Mo_find_71 (q0 : z_Sg) (ih71 : Int64 × Int32 × Int32 × Int64 × Int32 × Int32 × Int32 × Int32 × Int64 × Int32 × z_Sg → Option (Int64 × z_Sg)) (x1 : Int64) (x3 : Int32) (x4 : Int32) (x5 : Int64) (x7 : Int32) (x8 : Int32) (x9 : Int32) (x10 : Int32) (x11 : Int64) (x13 : Int32) (q : z_Sg) (h_ih71 : ∀ a : Int64 × Int32 × Int32 × Int64 × Int32 × Int32 × Int32 × Int32 × Int64 × Int32 × z_Sg, z_pn a.2.2.2.2.2.2.2.2.2.2 = z_pn q0 → z_po (ih71 a) (fun o : (Int64 × z_Sg) => z_pn o.2 = z_pn q0)) (hq : z_pn q = z_pn q0) : z_po (kb_Mo_find_71 ih71 x1 x3 x4 x5 x7 x8 x9 x10 x11 x13 q) (fun o : (Int64 × z_Sg) => z_pn o.2 = z_pn q0) := by
  unfold kb_Mo_find_71
  refine po_i (fun _ => ?_) (fun _ => ?_)
  ·
    refine po_b (R := fun _ => True) (fun _ _ => trivial) (fun r19 _ => ?_)
    refine po_b (R := fun _ => True) (fun _ _ => trivial) (fun r20 _ => ?_)
    refine po_i (fun _ => ?_) (fun _ => ?_)
    ·
      exact d_k_Mo_find_129 q0 ih71 x1 x3 x4 x7 x8 x9 x10 r20 q h_ih71 hq
    ·
      refine po_i (fun _ => ?_) (fun _ => ?_)
      ·
        exact d_k_Mo_find_129 q0 ih71 x1 x3 x4 x7 x8 x9 x10 r20 q h_ih71 hq
      ·
        exact d_k_Mo_find_130 q0 ih71 x1 x3 x4 x7 x8 x9 x10 r20 (1 : Int32) q h_ih71 hq
  ·
    refine po_n (fun q8 e_q8 => ?_)
    have h_q8 : z_pn q8 = z_pn q0 := by rw [e_q8]; exact hq
    refine po_i (fun _ => ?_) (fun _ => ?_)
    ·
      refine po_i (fun _ => ?_) (fun _ => ?_)
      ·
        exact d_k_Mo_find_336 q0 q8 h_q8
      ·
        exact d_k_Mo_find_314 q0 x1 x3 x5 x8 x9 x10 x11 q8 h_q8
    ·
      exact d_k_Mo_find_314 q0 x1 x3 x5 x8 x9 x10 x11 q8 h_q8
set_option maxHeartbeats 4000000 in
set_option maxRecDepth 100000 in
theorem m_k_Mo_find_71 (q0 : z_Sg) (x1 : Int64) (x3 : Int32) (x4 : Int32) (x5 : Int64) (x7 : Int32) (x8 : Int32) (x9 : Int32) (x10 : Int32) (x11 : Int64) (x13 : Int32) (q : z_Sg) (hq : z_pk q = z_pk q0) : z_po (k_Mo_find_71 x1 x3 x4 x5 x7 x8 x9 x10 x11 x13 q) (fun o : (Int64 × z_Sg) => z_pk o.2 = z_pk q0) := by
  unfold k_Mo_find_71
  exact po_l (fun a : Int64 × Int32 × Int32 × Int64 × Int32 × Int32 × Int32 × Int32 × Int64 × Int32 × z_Sg => z_pk a.2.2.2.2.2.2.2.2.2.2 = z_pk q0) (fun ih71 a ha hih => m_kb_Mo_find_71 q0 ih71 a.1 a.2.1 a.2.2.1 a.2.2.2.1 a.2.2.2.2.1 a.2.2.2.2.2.1 a.2.2.2.2.2.2.1 a.2.2.2.2.2.2.2.1 a.2.2.2.2.2.2.2.2.1 a.2.2.2.2.2.2.2.2.2.1 a.2.2.2.2.2.2.2.2.2.2  hih ha) _ _ hq
set_option maxHeartbeats 4000000 in
set_option maxRecDepth 100000 in
theorem d_k_Mo_find_71 (q0 : z_Sg) (x1 : Int64) (x3 : Int32) (x4 : Int32) (x5 : Int64) (x7 : Int32) (x8 : Int32) (x9 : Int32) (x10 : Int32) (x11 : Int64) (x13 : Int32) (q : z_Sg) (hq : z_pn q = z_pn q0) : z_po (k_Mo_find_71 x1 x3 x4 x5 x7 x8 x9 x10 x11 x13 q) (fun o : (Int64 × z_Sg) => z_pn o.2 = z_pn q0) := by
  unfold k_Mo_find_71
  exact po_l (fun a : Int64 × Int32 × Int32 × Int64 × Int32 × Int32 × Int32 × Int32 × Int64 × Int32 × z_Sg => z_pn a.2.2.2.2.2.2.2.2.2.2 = z_pn q0) (fun ih71 a ha hih => d_kb_Mo_find_71 q0 ih71 a.1 a.2.1 a.2.2.1 a.2.2.2.1 a.2.2.2.2.1 a.2.2.2.2.2.1 a.2.2.2.2.2.2.1 a.2.2.2.2.2.2.2.1 a.2.2.2.2.2.2.2.2.1 a.2.2.2.2.2.2.2.2.2.1 a.2.2.2.2.2.2.2.2.2.2  hih ha) _ _ hq
set_option maxHeartbeats 4000000 in
set_option maxRecDepth 100000 in
theorem m_k_Mo_find_34 (q0 : z_Sg) (x1 : Int64) (x3 : Int32) (t0 : Int32) (t1 : Int32) (q : z_Sg) (hq : z_pk q = z_pk q0) : z_po (k_Mo_find_34 x1 x3 t0 t1 q) (fun o : (Int64 × z_Sg) => z_pk o.2 = z_pk q0) := by
  unfold k_Mo_find_34
  refine po_n (fun n4 _ => ?_)
  refine po_b (R := fun _ => True) (fun _ _ => trivial) (fun r5 _ => ?_)
  refine po_n (fun n6 _ => ?_)
  exact m_k_Mo_find_71 q0 x1 x3 n4 n6 (1 : Int32) (1 : Int32) (1 : Int32) (3 : Int32) (0 : Int64) (0 : Int32) q hq
set_option maxHeartbeats 4000000 in
set_option maxRecDepth 100000 in
theorem d_k_Mo_find_34 (q0 : z_Sg) (x1 : Int64) (x3 : Int32) (t0 : Int32) (t1 : Int32) (q : z_Sg) (hq : z_pn q = z_pn q0) : z_po (k_Mo_find_34 x1 x3 t0 t1 q) (fun o : (Int64 × z_Sg) => z_pn o.2 = z_pn q0) := by
  unfold k_Mo_find_34
  refine po_n (fun n4 _ => ?_)
  refine po_b (R := fun _ => True) (fun _ _ => trivial) (fun r5 _ => ?_)
  refine po_n (fun n6 _ => ?_)
  exact d_k_Mo_find_71 q0 x1 x3 n4 n6 (1 : Int32) (1 : Int32) (1 : Int32) (3 : Int32) (0 : Int64) (0 : Int32) q hq
set_option maxHeartbeats 4000000 in
set_option maxRecDepth 100000 in
theorem m_k_Mo_find_22 (q0 : z_Sg) (x1 : Int64) (x3 : Int32) (t0 : Int32) (t1 : Int32) (q : z_Sg) (hq : z_pk q = z_pk q0) : z_po (k_Mo_find_22 x1 x3 t0 t1 q) (fun o : (Int64 × z_Sg) => z_pk o.2 = z_pk q0) := by
  unfold k_Mo_find_22
  refine po_i (fun _ => ?_) (fun _ => ?_)
  ·
    exact m_k_Mo_find_34 q0 x1 x3 (t0 + t1) (16 : Int32) q hq
  ·
    exact m_k_Mo_find_34 q0 x1 x3 (t0 + t1) (0 : Int32) q hq
set_option maxHeartbeats 4000000 in
set_option maxRecDepth 100000 in
theorem d_k_Mo_find_22 (q0 : z_Sg) (x1 : Int64) (x3 : Int32) (t0 : Int32) (t1 : Int32) (q : z_Sg) (hq : z_pn q = z_pn q0) : z_po (k_Mo_find_22 x1 x3 t0 t1 q) (fun o : (Int64 × z_Sg) => z_pn o.2 = z_pn q0) := by
  unfold k_Mo_find_22
  refine po_i (fun _ => ?_) (fun _ => ?_)
  ·
    exact d_k_Mo_find_34 q0 x1 x3 (t0 + t1) (16 : Int32) q hq
  ·
    exact d_k_Mo_find_34 q0 x1 x3 (t0 + t1) (0 : Int32) q hq
set_option maxHeartbeats 4000000 in
set_option maxRecDepth 100000 in
theorem m_k_Mo_find_10 (q0 : z_Sg) (x1 : Int64) (x3 : Int32) (t0 : Int32) (q : z_Sg) (hq : z_pk q = z_pk q0) : z_po (k_Mo_find_10 x1 x3 t0 q) (fun o : (Int64 × z_Sg) => z_pk o.2 = z_pk q0) := by
  unfold k_Mo_find_10
  refine po_i (fun _ => ?_) (fun _ => ?_)
  ·
    exact m_k_Mo_find_22 q0 x1 x3 t0 (0 : Int32) q hq
  ·
    exact m_k_Mo_find_22 q0 x1 x3 t0 (4 : Int32) q hq
set_option maxHeartbeats 4000000 in
set_option maxRecDepth 100000 in
theorem d_k_Mo_find_10 (q0 : z_Sg) (x1 : Int64) (x3 : Int32) (t0 : Int32) (q : z_Sg) (hq : z_pn q = z_pn q0) : z_po (k_Mo_find_10 x1 x3 t0 q) (fun o : (Int64 × z_Sg) => z_pn o.2 = z_pn q0) := by
  unfold k_Mo_find_10
  refine po_i (fun _ => ?_) (fun _ => ?_)
  ·
    exact d_k_Mo_find_22 q0 x1 x3 t0 (0 : Int32) q hq
  ·
    exact d_k_Mo_find_22 q0 x1 x3 t0 (4 : Int32) q hq
set_option maxHeartbeats 4000000 in
set_option maxRecDepth 100000 in
theorem m_f_Mo_find (q0 : z_Sg) (x1 : Int64) (x3 : Int32) (q : z_Sg) (hq : z_pk q = z_pk q0) : z_po (f_Mo_find x1 x3 q) (fun o : (Int64 × z_Sg) => z_pk o.2 = z_pk q0) := by
  unfold f_Mo_find
  refine po_i (fun _ => ?_) (fun _ => ?_)
  ·
    exact m_k_Mo_find_10 q0 x1 x3 (2 : Int32) q hq
  ·
    exact m_k_Mo_find_10 q0 x1 x3 (0 : Int32) q hq
set_option maxHeartbeats 4000000 in
set_option maxRecDepth 100000 in
theorem d_f_Mo_find (q0 : z_Sg) (x1 : Int64) (x3 : Int32) (q : z_Sg) (hq : z_pn q = z_pn q0) : z_po (f_Mo_find x1 x3 q) (fun o : (Int64 × z_Sg) => z_pn o.2 = z_pn q0) := by
  unfold f_Mo_find
  refine po_i (fun _ => ?_) (fun _ => ?_)
  ·
    exact d_k_Mo_find_10 q0 x1 x3 (2 : Int32) q hq
  ·
    exact d_k_Mo_find_10 q0 x1 x3 (0 : Int32) q hq
theorem m_f_Mo_refuse (q0 : z_Sg) (x1 : Int32) (q : z_Sg) (hq : z_pk q = z_pk q0) : z_po (f_Mo_refuse x1 q) (fun o : z_Sg => z_pk o = z_pk q0) := by
  unfold f_Mo_refuse k_Mo_refuse_13
  exact po_i (fun _ => po_n (fun n e => po_s (by rw [e]; exact hq))) (fun _ => po_s hq)
theorem d_f_Mo_refuse (q0 : z_Sg) (x1 : Int32) (q : z_Sg) (hq : z_pn q = z_pn q0) (hd : ¬ z_gI q0 4 = -1) : z_po (f_Mo_refuse x1 q) (fun o : z_Sg => z_pn o = z_pn q0) := by
  unfold f_Mo_refuse k_Mo_refuse_13
  exact po_f (pn_d hq hd) (po_s hq)
set_option maxHeartbeats 4000000 in
set_option maxRecDepth 100000 in
theorem m_k_Mo_lookUp_107 (q0 : z_Sg) (q : z_Sg) (hq : z_pk q = z_pk q0) : z_po (k_Mo_lookUp_107 q) (fun o : z_Sg => z_pk o = z_pk q0) := by
  unfold k_Mo_lookUp_107
  exact po_s hq
set_option maxHeartbeats 4000000 in
set_option maxRecDepth 100000 in
theorem d_k_Mo_lookUp_107 (q0 : z_Sg) (q : z_Sg) (hq : z_pn q = z_pn q0) : z_po (k_Mo_lookUp_107 q) (fun o : z_Sg => z_pn o = z_pn q0) := by
  unfold k_Mo_lookUp_107
  exact po_s hq
set_option maxHeartbeats 4000000 in
set_option maxRecDepth 100000 in
theorem m_k_Mo_lookUp_101 (q0 : z_Sg) (ih3 : Int64 × Int32 × Int32 × Int32 × Int32 × z_Sg → Option z_Sg) (x1 : Int64) (x3 : Int32) (x4 : Int32) (x5 : Int32) (x6 : Int32) (q : z_Sg) (h_ih3 : ∀ a : Int64 × Int32 × Int32 × Int32 × Int32 × z_Sg, z_pk a.2.2.2.2.2 = z_pk q0 → z_po (ih3 a) (fun o : z_Sg => z_pk o = z_pk q0)) (hq : z_pk q = z_pk q0) : z_po (k_Mo_lookUp_101 ih3 x1 x3 x4 x5 x6 q) (fun o : z_Sg => z_pk o = z_pk q0) := by
  unfold k_Mo_lookUp_101
  refine po_n (fun n13 _ => ?_)
  exact h_ih3 _ hq
set_option maxHeartbeats 4000000 in
set_option maxRecDepth 100000 in
theorem d_k_Mo_lookUp_101 (q0 : z_Sg) (ih3 : Int64 × Int32 × Int32 × Int32 × Int32 × z_Sg → Option z_Sg) (x1 : Int64) (x3 : Int32) (x4 : Int32) (x5 : Int32) (x6 : Int32) (q : z_Sg) (h_ih3 : ∀ a : Int64 × Int32 × Int32 × Int32 × Int32 × z_Sg, z_pn a.2.2.2.2.2 = z_pn q0 → z_po (ih3 a) (fun o : z_Sg => z_pn o = z_pn q0)) (hq : z_pn q = z_pn q0) (hd : ¬ z_gI q0 4 = -1) : z_po (k_Mo_lookUp_101 ih3 x1 x3 x4 x5 x6 q) (fun o : z_Sg => z_pn o = z_pn q0) := by
  unfold k_Mo_lookUp_101
  refine po_n (fun n13 _ => ?_)
  exact h_ih3 _ hq
set_option maxHeartbeats 4000000 in
set_option maxRecDepth 100000 in
theorem m_k_Mo_lookUp_41 (q0 : z_Sg) (t1 : Int32) (q : z_Sg) (hq : z_pk q = z_pk q0) : z_po (k_Mo_lookUp_41 t1 q) (fun o : z_Sg => z_pk o = z_pk q0) := by
  unfold k_Mo_lookUp_41
  refine po_b (m_f_Mo_refuse q0 t1 q hq) (fun r15 h_r15 => ?_)
  exact po_s h_r15
set_option maxHeartbeats 4000000 in
set_option maxRecDepth 100000 in
theorem d_k_Mo_lookUp_41 (q0 : z_Sg) (t1 : Int32) (q : z_Sg) (hq : z_pn q = z_pn q0) (hd : ¬ z_gI q0 4 = -1) : z_po (k_Mo_lookUp_41 t1 q) (fun o : z_Sg => z_pn o = z_pn q0) := by
  unfold k_Mo_lookUp_41
  refine po_b (d_f_Mo_refuse q0 t1 q hq hd) (fun r15 h_r15 => ?_)
  exact po_s h_r15
set_option maxHeartbeats 4000000 in
set_option maxRecDepth 100000 in
theorem m_kb_Mo_lookUp_3 (q0 : z_Sg) (ih3 : Int64 × Int32 × Int32 × Int32 × Int32 × z_Sg → Option z_Sg) (x1 : Int64) (x3 : Int32) (x4 : Int32) (x5 : Int32) (x6 : Int32) (q : z_Sg) (h_ih3 : ∀ a : Int64 × Int32 × Int32 × Int32 × Int32 × z_Sg, z_pk a.2.2.2.2.2 = z_pk q0 → z_po (ih3 a) (fun o : z_Sg => z_pk o = z_pk q0)) (hq : z_pk q = z_pk q0) : z_po (kb_Mo_lookUp_3 ih3 x1 x3 x4 x5 x6 q) (fun o : z_Sg => z_pk o = z_pk q0) := by
  unfold kb_Mo_lookUp_3
  refine po_i (fun _ => ?_) (fun _ => ?_)
  ·
    exact m_k_Mo_lookUp_107 q0 q hq
  ·
    refine po_i (fun _ => ?_) (fun _ => ?_)
    ·
      refine po_b (R := fun _ => True) (fun _ _ => trivial) (fun r3 _ => ?_)
      refine po_i (fun _ => ?_) (fun _ => ?_)
      ·
        refine po_b (m_f_Mo_find q0 (x1 + x6.toInt64) x4 q hq) (fun r5 h_r5 => ?_)
        refine po_g (fun _ => ?_)
        refine po_n (fun q7 e_q7 => ?_)
        have h_q7 : z_pk q7 = z_pk q0 := by rw [e_q7]; exact h_r5
        refine po_g (fun _ => ?_)
        refine po_i (fun _ => ?_) (fun _ => ?_)
        ·
          refine po_b (m_f_Mo_refuse q0 (14 : Int32) q7 h_q7) (fun r10 h_r10 => ?_)
          refine po_n (fun q11 e_q11 => ?_)
          have h_q11 : z_pk q11 = z_pk q0 := by rw [e_q11]; exact h_r10
          refine po_n (fun q12 e_q12 => ?_)
          have h_q12 : z_pk q12 = z_pk q0 := by rw [e_q12]; exact h_q11
          exact m_k_Mo_lookUp_101 q0 ih3 x1 x3 x4 x5 x6 q12 h_ih3 h_q12
        ·
          exact m_k_Mo_lookUp_101 q0 ih3 x1 x3 x4 x5 x6 q7 h_ih3 h_q7
      ·
        refine po_i (fun _ => ?_) (fun _ => ?_)
        ·
          exact m_k_Mo_lookUp_41 q0 (13 : Int32) q hq
        ·
          exact m_k_Mo_lookUp_41 q0 (12 : Int32) q hq
    ·
      exact m_k_Mo_lookUp_107 q0 q hq
set_option maxHeartbeats 4000000 in
set_option maxRecDepth 100000 in
theorem d_kb_Mo_lookUp_3 (q0 : z_Sg) (ih3 : Int64 × Int32 × Int32 × Int32 × Int32 × z_Sg → Option z_Sg) (x1 : Int64) (x3 : Int32) (x4 : Int32) (x5 : Int32) (x6 : Int32) (q : z_Sg) (h_ih3 : ∀ a : Int64 × Int32 × Int32 × Int32 × Int32 × z_Sg, z_pn a.2.2.2.2.2 = z_pn q0 → z_po (ih3 a) (fun o : z_Sg => z_pn o = z_pn q0)) (hq : z_pn q = z_pn q0) (hd : ¬ z_gI q0 4 = -1) : z_po (kb_Mo_lookUp_3 ih3 x1 x3 x4 x5 x6 q) (fun o : z_Sg => z_pn o = z_pn q0) := by
  unfold kb_Mo_lookUp_3
  refine po_i (fun _ => ?_) (fun _ => ?_)
  ·
    exact d_k_Mo_lookUp_107 q0 q hq
  ·
    refine po_f (pn_d hq hd) ?_
    exact d_k_Mo_lookUp_107 q0 q hq
set_option maxHeartbeats 4000000 in
set_option maxRecDepth 100000 in
theorem m_k_Mo_lookUp_3 (q0 : z_Sg) (x1 : Int64) (x3 : Int32) (x4 : Int32) (x5 : Int32) (x6 : Int32) (q : z_Sg) (hq : z_pk q = z_pk q0) : z_po (k_Mo_lookUp_3 x1 x3 x4 x5 x6 q) (fun o : z_Sg => z_pk o = z_pk q0) := by
  unfold k_Mo_lookUp_3
  exact po_l (fun a : Int64 × Int32 × Int32 × Int32 × Int32 × z_Sg => z_pk a.2.2.2.2.2 = z_pk q0) (fun ih3 a ha hih => m_kb_Mo_lookUp_3 q0 ih3 a.1 a.2.1 a.2.2.1 a.2.2.2.1 a.2.2.2.2.1 a.2.2.2.2.2  hih ha) _ _ hq
set_option maxHeartbeats 4000000 in
set_option maxRecDepth 100000 in
theorem d_k_Mo_lookUp_3 (q0 : z_Sg) (x1 : Int64) (x3 : Int32) (x4 : Int32) (x5 : Int32) (x6 : Int32) (q : z_Sg) (hq : z_pn q = z_pn q0) (hd : ¬ z_gI q0 4 = -1) : z_po (k_Mo_lookUp_3 x1 x3 x4 x5 x6 q) (fun o : z_Sg => z_pn o = z_pn q0) := by
  unfold k_Mo_lookUp_3
  exact po_l (fun a : Int64 × Int32 × Int32 × Int32 × Int32 × z_Sg => z_pn a.2.2.2.2.2 = z_pn q0) (fun ih3 a ha hih => d_kb_Mo_lookUp_3 q0 ih3 a.1 a.2.1 a.2.2.1 a.2.2.2.1 a.2.2.2.2.1 a.2.2.2.2.2  hih ha hd) _ _ hq
set_option maxHeartbeats 4000000 in
set_option maxRecDepth 100000 in
theorem m_f_Mo_lookUp (q0 : z_Sg) (x1 : Int64) (x3 : Int32) (x4 : Int32) (x5 : Int32) (q : z_Sg) (hq : z_pk q = z_pk q0) : z_po (f_Mo_lookUp x1 x3 x4 x5 q) (fun o : z_Sg => z_pk o = z_pk q0) := by
  unfold f_Mo_lookUp
  exact m_k_Mo_lookUp_3 q0 x1 x3 x4 x5 (0 : Int32) q hq
set_option maxHeartbeats 4000000 in
set_option maxRecDepth 100000 in
theorem d_f_Mo_lookUp (q0 : z_Sg) (x1 : Int64) (x3 : Int32) (x4 : Int32) (x5 : Int32) (q : z_Sg) (hq : z_pn q = z_pn q0) (hd : ¬ z_gI q0 4 = -1) : z_po (f_Mo_lookUp x1 x3 x4 x5 q) (fun o : z_Sg => z_pn o = z_pn q0) := by
  unfold f_Mo_lookUp
  exact d_k_Mo_lookUp_3 q0 x1 x3 x4 x5 (0 : Int32) q hq hd
set_option maxHeartbeats 4000000 in
set_option maxRecDepth 100000 in
theorem m_k_Mo_fetch_23 (q0 : z_Sg) (q : z_Sg) (hq : z_pk q = z_pk q0) : z_po (k_Mo_fetch_23 q) (fun o : (Int32 × z_Sg) => z_pk o.2 = z_pk q0) := by
  unfold k_Mo_fetch_23
  refine po_b (m_f_Mo_lookUp q0 ((z_gL q 0) + (z_gI q 6).toInt64) (1 : Int32) (2 : Int32) (0 : Int32) q hq) (fun r2 h_r2 => ?_)
  refine po_i (fun _ => ?_) (fun _ => ?_)
  ·
    refine po_n (fun q4 e_q4 => ?_)
    have h_q4 : z_pk q4 = z_pk q0 := by rw [e_q4]; exact h_r2
    refine po_g (fun _ => ?_)
    refine po_b (R := fun _ => True) (fun _ _ => trivial) (fun r6 _ => ?_)
    exact po_s h_q4
  ·
    exact po_s h_r2
set_option maxHeartbeats 4000000 in
set_option maxRecDepth 100000 in
theorem d_k_Mo_fetch_23 (q0 : z_Sg) (q : z_Sg) (hq : z_pn q = z_pn q0) (hd : ¬ z_gI q0 4 = -1) : z_po (k_Mo_fetch_23 q) (fun o : (Int32 × z_Sg) => z_pn o.2 = z_pn q0) := by
  unfold k_Mo_fetch_23
  refine po_b (d_f_Mo_lookUp q0 ((z_gL q 0) + (z_gI q 6).toInt64) (1 : Int32) (2 : Int32) (0 : Int32) q hq hd) (fun r2 h_r2 => ?_)
  refine po_f (pn_d h_r2 hd) ?_
  exact po_s h_r2
set_option maxHeartbeats 4000000 in
set_option maxRecDepth 100000 in
theorem m_f_Mo_fetch (q0 : z_Sg) (q : z_Sg) (hq : z_pk q = z_pk q0) : z_po (f_Mo_fetch q) (fun o : (Int32 × z_Sg) => z_pk o.2 = z_pk q0) := by
  unfold f_Mo_fetch
  refine po_i (fun _ => ?_) (fun _ => ?_)
  ·
    refine po_i (fun _ => ?_) (fun _ => ?_)
    ·
      refine po_b (m_f_Mo_refuse q0 (13 : Int32) q hq) (fun r8 h_r8 => ?_)
      exact m_k_Mo_fetch_23 q0 r8 h_r8
    ·
      exact m_k_Mo_fetch_23 q0 q hq
  ·
    exact m_k_Mo_fetch_23 q0 q hq
set_option maxHeartbeats 4000000 in
set_option maxRecDepth 100000 in
theorem d_f_Mo_fetch (q0 : z_Sg) (q : z_Sg) (hq : z_pn q = z_pn q0) (hd : ¬ z_gI q0 4 = -1) : z_po (f_Mo_fetch q) (fun o : (Int32 × z_Sg) => z_pn o.2 = z_pn q0) := by
  unfold f_Mo_fetch
  refine po_f (pn_d hq hd) ?_
  exact d_k_Mo_fetch_23 q0 q hq hd
set_option maxHeartbeats 4000000 in
set_option maxRecDepth 100000 in
theorem m_k_Mo_open_167 (q0 : z_Sg) (t1 : Int32) (q : z_Sg) (hq : z_pk q = z_pk q0) : z_po (k_Mo_open_167 t1 q) (fun o : z_Sg => z_pk o = z_pk q0) := by
  unfold k_Mo_open_167
  refine po_n (fun q11 e_q11 => ?_)
  have h_q11 : z_pk q11 = z_pk q0 := by rw [e_q11]; exact hq
  exact po_s h_q11
set_option maxHeartbeats 4000000 in
set_option maxRecDepth 100000 in
theorem d_k_Mo_open_167 (q0 : z_Sg) (t1 : Int32) (q : z_Sg) (hq : z_pn q = z_pn q0) : z_po (k_Mo_open_167 t1 q) (fun o : z_Sg => z_pn o = z_pn q0) := by
  unfold k_Mo_open_167
  refine po_n (fun q11 e_q11 => ?_)
  have h_q11 : z_pn q11 = z_pn q0 := by rw [e_q11]; exact hq
  exact po_s h_q11
set_option maxHeartbeats 4000000 in
set_option maxRecDepth 100000 in
theorem m_k_Mo_open_148 (q0 : z_Sg) (x1 : Int32) (t1 : Int32) (q : z_Sg) (hq : z_pk q = z_pk q0) : z_po (k_Mo_open_148 x1 t1 q) (fun o : z_Sg => z_pk o = z_pk q0) := by
  unfold k_Mo_open_148
  refine po_G (fun _ => ?_)
  refine po_n (fun q9 e_q9 => ?_)
  have h_q9 : z_pk q9 = z_pk q0 := by rw [e_q9]; exact hq
  refine po_i (fun _ => ?_) (fun _ => ?_)
  ·
    exact m_k_Mo_open_167 q0 x1 q9 h_q9
  ·
    refine po_b (m_f_Mo_fetch q0 q9 h_q9) (fun r12 h_r12 => ?_)
    exact m_k_Mo_open_167 q0 r12.1 r12.2 h_r12
set_option maxHeartbeats 4000000 in
set_option maxRecDepth 100000 in
theorem d_k_Mo_open_148 (q0 : z_Sg) (x1 : Int32) (t1 : Int32) (q : z_Sg) (hq : z_pn q = z_pn q0) (hd : ¬ z_gI q0 4 = -1) : z_po (k_Mo_open_148 x1 t1 q) (fun o : z_Sg => z_pn o = z_pn q0) := by
  unfold k_Mo_open_148
  refine po_G (fun _ => ?_)
  refine po_n (fun q9 e_q9 => ?_)
  have h_q9 : z_pn q9 = z_pn q0 := by rw [e_q9]; exact hq
  refine po_i (fun _ => ?_) (fun _ => ?_)
  ·
    exact d_k_Mo_open_167 q0 x1 q9 h_q9
  ·
    refine po_b (d_f_Mo_fetch q0 q9 h_q9 hd) (fun r12 h_r12 => ?_)
    exact d_k_Mo_open_167 q0 r12.1 r12.2 h_r12
set_option maxHeartbeats 4000000 in
set_option maxRecDepth 100000 in
theorem m_k_Mo_open_147 (q0 : z_Sg) (x1 : Int32) (q : z_Sg) (hq : z_pk q = z_pk q0) : z_po (k_Mo_open_147 x1 q) (fun o : z_Sg => z_pk o = z_pk q0) := by
  unfold k_Mo_open_147
  exact m_k_Mo_open_148 q0 x1 (0 : Int32) q hq
set_option maxHeartbeats 4000000 in
set_option maxRecDepth 100000 in
theorem d_k_Mo_open_147 (q0 : z_Sg) (x1 : Int32) (q : z_Sg) (hq : z_pn q = z_pn q0) (hd : ¬ z_gI q0 4 = -1) : z_po (k_Mo_open_147 x1 q) (fun o : z_Sg => z_pn o = z_pn q0) := by
  unfold k_Mo_open_147
  exact d_k_Mo_open_148 q0 x1 (0 : Int32) q hq hd
set_option maxHeartbeats 4000000 in
set_option maxRecDepth 100000 in
theorem m_k_Mo_open_128 (q0 : z_Sg) (x1 : Int32) (q : z_Sg) (hq : z_pk q = z_pk q0) : z_po (k_Mo_open_128 x1 q) (fun o : z_Sg => z_pk o = z_pk q0) := by
  unfold k_Mo_open_128
  refine po_i (fun _ => ?_) (fun _ => ?_)
  ·
    refine po_i (fun _ => ?_) (fun _ => ?_)
    ·
      exact m_k_Mo_open_148 q0 x1 (1 : Int32) q hq
    ·
      exact m_k_Mo_open_147 q0 x1 q hq
  ·
    exact m_k_Mo_open_147 q0 x1 q hq
set_option maxHeartbeats 4000000 in
set_option maxRecDepth 100000 in
theorem d_k_Mo_open_128 (q0 : z_Sg) (x1 : Int32) (q : z_Sg) (hq : z_pn q = z_pn q0) (hd : ¬ z_gI q0 4 = -1) : z_po (k_Mo_open_128 x1 q) (fun o : z_Sg => z_pn o = z_pn q0) := by
  unfold k_Mo_open_128
  refine po_i (fun _ => ?_) (fun _ => ?_)
  ·
    refine po_f (pn_d hq hd) ?_
    exact d_k_Mo_open_147 q0 x1 q hq hd
  ·
    exact d_k_Mo_open_147 q0 x1 q hq hd
set_option maxHeartbeats 4000000 in
set_option maxRecDepth 100000 in
theorem m_k_Mo_open_120 (q0 : z_Sg) (ih25 : Int32 × z_Sg → Option z_Sg) (q : z_Sg) (h_ih25 : ∀ a : Int32 × z_Sg, z_pk a.2 = z_pk q0 → z_po (ih25 a) (fun o : z_Sg => z_pk o = z_pk q0)) (hq : z_pk q = z_pk q0) : z_po (k_Mo_open_120 ih25 q) (fun o : z_Sg => z_pk o = z_pk q0) := by
  unfold k_Mo_open_120
  refine po_b (m_f_Mo_fetch q0 q hq) (fun r21 h_r21 => ?_)
  exact h_ih25 _ h_r21
set_option maxHeartbeats 4000000 in
set_option maxRecDepth 100000 in
theorem d_k_Mo_open_120 (q0 : z_Sg) (ih25 : Int32 × z_Sg → Option z_Sg) (q : z_Sg) (h_ih25 : ∀ a : Int32 × z_Sg, z_pn a.2 = z_pn q0 → z_po (ih25 a) (fun o : z_Sg => z_pn o = z_pn q0)) (hq : z_pn q = z_pn q0) (hd : ¬ z_gI q0 4 = -1) : z_po (k_Mo_open_120 ih25 q) (fun o : z_Sg => z_pn o = z_pn q0) := by
  unfold k_Mo_open_120
  refine po_b (d_f_Mo_fetch q0 q hq hd) (fun r21 h_r21 => ?_)
  exact h_ih25 _ h_r21
set_option maxHeartbeats 4000000 in
set_option maxRecDepth 100000 in
theorem m_k_Mo_open_105 (q0 : z_Sg) (ih25 : Int32 × z_Sg → Option z_Sg) (x1 : Int32) (t1 : Int32) (q : z_Sg) (h_ih25 : ∀ a : Int32 × z_Sg, z_pk a.2 = z_pk q0 → z_po (ih25 a) (fun o : z_Sg => z_pk o = z_pk q0)) (hq : z_pk q = z_pk q0) : z_po (k_Mo_open_105 ih25 x1 t1 q) (fun o : z_Sg => z_pk o = z_pk q0) := by
  unfold k_Mo_open_105
  refine po_G (fun _ => ?_)
  refine po_n (fun q19 e_q19 => ?_)
  have h_q19 : z_pk q19 = z_pk q0 := by rw [e_q19]; exact hq
  refine po_i (fun _ => ?_) (fun _ => ?_)
  ·
    exact m_k_Mo_open_120 q0 ih25 q19 h_ih25 h_q19
  ·
    refine po_n (fun q22 e_q22 => ?_)
    have h_q22 : z_pk q22 = z_pk q0 := by rw [e_q22]; exact h_q19
    exact m_k_Mo_open_120 q0 ih25 q22 h_ih25 h_q22
set_option maxHeartbeats 4000000 in
set_option maxRecDepth 100000 in
theorem d_k_Mo_open_105 (q0 : z_Sg) (ih25 : Int32 × z_Sg → Option z_Sg) (x1 : Int32) (t1 : Int32) (q : z_Sg) (h_ih25 : ∀ a : Int32 × z_Sg, z_pn a.2 = z_pn q0 → z_po (ih25 a) (fun o : z_Sg => z_pn o = z_pn q0)) (hq : z_pn q = z_pn q0) (hd : ¬ z_gI q0 4 = -1) : z_po (k_Mo_open_105 ih25 x1 t1 q) (fun o : z_Sg => z_pn o = z_pn q0) := by
  unfold k_Mo_open_105
  refine po_G (fun _ => ?_)
  refine po_n (fun q19 e_q19 => ?_)
  have h_q19 : z_pn q19 = z_pn q0 := by rw [e_q19]; exact hq
  refine po_i (fun _ => ?_) (fun _ => ?_)
  ·
    exact d_k_Mo_open_120 q0 ih25 q19 h_ih25 h_q19 hd
  ·
    refine po_n (fun q22 e_q22 => ?_)
    have h_q22 : z_pn q22 = z_pn q0 := by rw [e_q22]; exact h_q19
    exact d_k_Mo_open_120 q0 ih25 q22 h_ih25 h_q22 hd
set_option maxHeartbeats 4000000 in
set_option maxRecDepth 100000 in
theorem m_k_Mo_open_100 (q0 : z_Sg) (ih25 : Int32 × z_Sg → Option z_Sg) (x1 : Int32) (q : z_Sg) (h_ih25 : ∀ a : Int32 × z_Sg, z_pk a.2 = z_pk q0 → z_po (ih25 a) (fun o : z_Sg => z_pk o = z_pk q0)) (hq : z_pk q = z_pk q0) : z_po (k_Mo_open_100 ih25 x1 q) (fun o : z_Sg => z_pk o = z_pk q0) := by
  unfold k_Mo_open_100
  exact m_k_Mo_open_105 q0 ih25 x1 (1 : Int32) q h_ih25 hq
set_option maxHeartbeats 4000000 in
set_option maxRecDepth 100000 in
theorem d_k_Mo_open_100 (q0 : z_Sg) (ih25 : Int32 × z_Sg → Option z_Sg) (x1 : Int32) (q : z_Sg) (h_ih25 : ∀ a : Int32 × z_Sg, z_pn a.2 = z_pn q0 → z_po (ih25 a) (fun o : z_Sg => z_pn o = z_pn q0)) (hq : z_pn q = z_pn q0) (hd : ¬ z_gI q0 4 = -1) : z_po (k_Mo_open_100 ih25 x1 q) (fun o : z_Sg => z_pn o = z_pn q0) := by
  unfold k_Mo_open_100
  exact d_k_Mo_open_105 q0 ih25 x1 (1 : Int32) q h_ih25 hq hd
set_option maxHeartbeats 4000000 in
set_option maxRecDepth 100000 in
theorem m_k_Mo_open_83 (q0 : z_Sg) (ih25 : Int32 × z_Sg → Option z_Sg) (x1 : Int32) (t1 : Int32) (q : z_Sg) (h_ih25 : ∀ a : Int32 × z_Sg, z_pk a.2 = z_pk q0 → z_po (ih25 a) (fun o : z_Sg => z_pk o = z_pk q0)) (hq : z_pk q = z_pk q0) : z_po (k_Mo_open_83 ih25 x1 t1 q) (fun o : z_Sg => z_pk o = z_pk q0) := by
  unfold k_Mo_open_83
  refine po_n (fun q16 e_q16 => ?_)
  have h_q16 : z_pk q16 = z_pk q0 := by rw [e_q16]; exact hq
  refine po_i (fun _ => ?_) (fun _ => ?_)
  ·
    refine po_i (fun _ => ?_) (fun _ => ?_)
    ·
      exact m_k_Mo_open_100 q0 ih25 x1 q16 h_ih25 h_q16
    ·
      exact m_k_Mo_open_105 q0 ih25 x1 (0 : Int32) q16 h_ih25 h_q16
  ·
    exact m_k_Mo_open_100 q0 ih25 x1 q16 h_ih25 h_q16
set_option maxHeartbeats 4000000 in
set_option maxRecDepth 100000 in
theorem d_k_Mo_open_83 (q0 : z_Sg) (ih25 : Int32 × z_Sg → Option z_Sg) (x1 : Int32) (t1 : Int32) (q : z_Sg) (h_ih25 : ∀ a : Int32 × z_Sg, z_pn a.2 = z_pn q0 → z_po (ih25 a) (fun o : z_Sg => z_pn o = z_pn q0)) (hq : z_pn q = z_pn q0) (hd : ¬ z_gI q0 4 = -1) : z_po (k_Mo_open_83 ih25 x1 t1 q) (fun o : z_Sg => z_pn o = z_pn q0) := by
  unfold k_Mo_open_83
  refine po_n (fun q16 e_q16 => ?_)
  have h_q16 : z_pn q16 = z_pn q0 := by rw [e_q16]; exact hq
  refine po_i (fun _ => ?_) (fun _ => ?_)
  ·
    refine po_i (fun _ => ?_) (fun _ => ?_)
    ·
      exact d_k_Mo_open_100 q0 ih25 x1 q16 h_ih25 h_q16 hd
    ·
      exact d_k_Mo_open_105 q0 ih25 x1 (0 : Int32) q16 h_ih25 h_q16 hd
  ·
    exact d_k_Mo_open_100 q0 ih25 x1 q16 h_ih25 h_q16 hd
set_option maxHeartbeats 4000000 in
set_option maxRecDepth 100000 in
theorem m_k_Mo_open_82 (q0 : z_Sg) (ih25 : Int32 × z_Sg → Option z_Sg) (x1 : Int32) (q : z_Sg) (h_ih25 : ∀ a : Int32 × z_Sg, z_pk a.2 = z_pk q0 → z_po (ih25 a) (fun o : z_Sg => z_pk o = z_pk q0)) (hq : z_pk q = z_pk q0) : z_po (k_Mo_open_82 ih25 x1 q) (fun o : z_Sg => z_pk o = z_pk q0) := by
  unfold k_Mo_open_82
  exact m_k_Mo_open_83 q0 ih25 x1 (0 : Int32) q h_ih25 hq
set_option maxHeartbeats 4000000 in
set_option maxRecDepth 100000 in
theorem d_k_Mo_open_82 (q0 : z_Sg) (ih25 : Int32 × z_Sg → Option z_Sg) (x1 : Int32) (q : z_Sg) (h_ih25 : ∀ a : Int32 × z_Sg, z_pn a.2 = z_pn q0 → z_po (ih25 a) (fun o : z_Sg => z_pn o = z_pn q0)) (hq : z_pn q = z_pn q0) (hd : ¬ z_gI q0 4 = -1) : z_po (k_Mo_open_82 ih25 x1 q) (fun o : z_Sg => z_pn o = z_pn q0) := by
  unfold k_Mo_open_82
  exact d_k_Mo_open_83 q0 ih25 x1 (0 : Int32) q h_ih25 hq hd
set_option maxHeartbeats 4000000 in
set_option maxRecDepth 100000 in
theorem m_k_Mo_open_65 (q0 : z_Sg) (ih25 : Int32 × z_Sg → Option z_Sg) (x1 : Int32) (q : z_Sg) (h_ih25 : ∀ a : Int32 × z_Sg, z_pk a.2 = z_pk q0 → z_po (ih25 a) (fun o : z_Sg => z_pk o = z_pk q0)) (hq : z_pk q = z_pk q0) : z_po (k_Mo_open_65 ih25 x1 q) (fun o : z_Sg => z_pk o = z_pk q0) := by
  unfold k_Mo_open_65
  refine po_i (fun _ => ?_) (fun _ => ?_)
  ·
    exact m_k_Mo_open_82 q0 ih25 x1 q h_ih25 hq
  ·
    refine po_i (fun _ => ?_) (fun _ => ?_)
    ·
      exact m_k_Mo_open_82 q0 ih25 x1 q h_ih25 hq
    ·
      exact m_k_Mo_open_83 q0 ih25 x1 x1 q h_ih25 hq
set_option maxHeartbeats 4000000 in
set_option maxRecDepth 100000 in
theorem d_k_Mo_open_65 (q0 : z_Sg) (ih25 : Int32 × z_Sg → Option z_Sg) (x1 : Int32) (q : z_Sg) (h_ih25 : ∀ a : Int32 × z_Sg, z_pn a.2 = z_pn q0 → z_po (ih25 a) (fun o : z_Sg => z_pn o = z_pn q0)) (hq : z_pn q = z_pn q0) (hd : ¬ z_gI q0 4 = -1) : z_po (k_Mo_open_65 ih25 x1 q) (fun o : z_Sg => z_pn o = z_pn q0) := by
  unfold k_Mo_open_65
  refine po_i (fun _ => ?_) (fun _ => ?_)
  ·
    exact d_k_Mo_open_82 q0 ih25 x1 q h_ih25 hq hd
  ·
    refine po_i (fun _ => ?_) (fun _ => ?_)
    ·
      exact d_k_Mo_open_82 q0 ih25 x1 q h_ih25 hq hd
    ·
      exact d_k_Mo_open_83 q0 ih25 x1 x1 q h_ih25 hq hd
set_option maxHeartbeats 4000000 in
set_option maxRecDepth 100000 in
theorem m_kb_Mo_open_25 (q0 : z_Sg) (ih25 : Int32 × z_Sg → Option z_Sg) (x1 : Int32) (q : z_Sg) (h_ih25 : ∀ a : Int32 × z_Sg, z_pk a.2 = z_pk q0 → z_po (ih25 a) (fun o : z_Sg => z_pk o = z_pk q0)) (hq : z_pk q = z_pk q0) : z_po (kb_Mo_open_25 ih25 x1 q) (fun o : z_Sg => z_pk o = z_pk q0) := by
  unfold kb_Mo_open_25
  refine po_i (fun _ => ?_) (fun _ => ?_)
  ·
    refine po_i (fun _ => ?_) (fun _ => ?_)
    ·
      exact m_k_Mo_open_65 q0 ih25 x1 q h_ih25 hq
    ·
      refine po_i (fun _ => ?_) (fun _ => ?_)
      ·
        exact m_k_Mo_open_65 q0 ih25 x1 q h_ih25 hq
      ·
        refine po_i (fun _ => ?_) (fun _ => ?_)
        ·
          exact m_k_Mo_open_65 q0 ih25 x1 q h_ih25 hq
        ·
          refine po_i (fun _ => ?_) (fun _ => ?_)
          ·
            exact m_k_Mo_open_128 q0 x1 q hq
          ·
            refine po_i (fun _ => ?_) (fun _ => ?_)
            ·
              exact m_k_Mo_open_128 q0 x1 q hq
            ·
              exact m_k_Mo_open_65 q0 ih25 x1 q h_ih25 hq
  ·
    exact m_k_Mo_open_128 q0 x1 q hq
set_option maxHeartbeats 4000000 in
set_option maxRecDepth 100000 in
theorem d_kb_Mo_open_25 (q0 : z_Sg) (ih25 : Int32 × z_Sg → Option z_Sg) (x1 : Int32) (q : z_Sg) (h_ih25 : ∀ a : Int32 × z_Sg, z_pn a.2 = z_pn q0 → z_po (ih25 a) (fun o : z_Sg => z_pn o = z_pn q0)) (hq : z_pn q = z_pn q0) (hd : ¬ z_gI q0 4 = -1) : z_po (kb_Mo_open_25 ih25 x1 q) (fun o : z_Sg => z_pn o = z_pn q0) := by
  unfold kb_Mo_open_25
  refine po_f (pn_d hq hd) ?_
  exact d_k_Mo_open_128 q0 x1 q hq hd
set_option maxHeartbeats 4000000 in
set_option maxRecDepth 100000 in
theorem m_k_Mo_open_25 (q0 : z_Sg) (x1 : Int32) (q : z_Sg) (hq : z_pk q = z_pk q0) : z_po (k_Mo_open_25 x1 q) (fun o : z_Sg => z_pk o = z_pk q0) := by
  unfold k_Mo_open_25
  exact po_l (fun a : Int32 × z_Sg => z_pk a.2 = z_pk q0) (fun ih25 a ha hih => m_kb_Mo_open_25 q0 ih25 a.1 a.2  hih ha) _ _ hq
set_option maxHeartbeats 4000000 in
set_option maxRecDepth 100000 in
theorem d_k_Mo_open_25 (q0 : z_Sg) (x1 : Int32) (q : z_Sg) (hq : z_pn q = z_pn q0) (hd : ¬ z_gI q0 4 = -1) : z_po (k_Mo_open_25 x1 q) (fun o : z_Sg => z_pn o = z_pn q0) := by
  unfold k_Mo_open_25
  exact po_l (fun a : Int32 × z_Sg => z_pn a.2 = z_pn q0) (fun ih25 a ha hih => d_kb_Mo_open_25 q0 ih25 a.1 a.2  hih ha hd) _ _ hq
set_option maxHeartbeats 4000000 in
set_option maxRecDepth 100000 in
theorem m_f_Mo_open (q0 : z_Sg) (q : z_Sg) (hq : z_pk q = z_pk q0) : z_po (f_Mo_open q) (fun o : z_Sg => z_pk o = z_pk q0) := by
  unfold f_Mo_open
  refine po_n (fun q1 e_q1 => ?_)
  have h_q1 : z_pk q1 = z_pk q0 := by rw [e_q1]; exact hq
  refine po_n (fun q2 e_q2 => ?_)
  have h_q2 : z_pk q2 = z_pk q0 := by rw [e_q2]; exact h_q1
  refine po_n (fun q3 e_q3 => ?_)
  have h_q3 : z_pk q3 = z_pk q0 := by rw [e_q3]; exact h_q2
  refine po_n (fun q4 e_q4 => ?_)
  have h_q4 : z_pk q4 = z_pk q0 := by rw [e_q4]; exact h_q3
  refine po_b (m_f_Mo_fetch q0 q4 h_q4) (fun r5 h_r5 => ?_)
  exact m_k_Mo_open_25 q0 r5.1 r5.2 h_r5
set_option maxHeartbeats 4000000 in
set_option maxRecDepth 100000 in
theorem d_f_Mo_open (q0 : z_Sg) (q : z_Sg) (hq : z_pn q = z_pn q0) (hd : ¬ z_gI q0 4 = -1) : z_po (f_Mo_open q) (fun o : z_Sg => z_pn o = z_pn q0) := by
  unfold f_Mo_open
  refine po_n (fun q1 e_q1 => ?_)
  have h_q1 : z_pn q1 = z_pn q0 := by rw [e_q1]; exact hq
  refine po_n (fun q2 e_q2 => ?_)
  have h_q2 : z_pn q2 = z_pn q0 := by rw [e_q2]; exact h_q1
  refine po_n (fun q3 e_q3 => ?_)
  have h_q3 : z_pn q3 = z_pn q0 := by rw [e_q3]; exact h_q2
  refine po_n (fun q4 e_q4 => ?_)
  have h_q4 : z_pn q4 = z_pn q0 := by rw [e_q4]; exact h_q3
  refine po_b (d_f_Mo_fetch q0 q4 h_q4 hd) (fun r5 h_r5 => ?_)
  exact d_k_Mo_open_25 q0 r5.1 r5.2 h_r5 hd
set_option maxHeartbeats 4000000 in
set_option maxRecDepth 100000 in
theorem m_f_Mo_takeMod (q0 : z_Sg) (q : z_Sg) (hq : z_pk q = z_pk q0) : z_po (f_Mo_takeMod q) (fun o : z_Sg => z_pk o = z_pk q0) := by
  unfold f_Mo_takeMod
  refine po_b (m_f_Mo_fetch q0 q hq) (fun r1 h_r1 => ?_)
  refine po_n (fun q2 e_q2 => ?_)
  have h_q2 : z_pk q2 = z_pk q0 := by rw [e_q2]; exact h_r1
  refine po_n (fun q3 e_q3 => ?_)
  have h_q3 : z_pk q3 = z_pk q0 := by rw [e_q3]; exact h_q2
  refine po_n (fun q4 e_q4 => ?_)
  have h_q4 : z_pk q4 = z_pk q0 := by rw [e_q4]; exact h_q3
  exact po_s h_q4
set_option maxHeartbeats 4000000 in
set_option maxRecDepth 100000 in
theorem d_f_Mo_takeMod (q0 : z_Sg) (q : z_Sg) (hq : z_pn q = z_pn q0) (hd : ¬ z_gI q0 4 = -1) : z_po (f_Mo_takeMod q) (fun o : z_Sg => z_pn o = z_pn q0) := by
  unfold f_Mo_takeMod
  refine po_b (d_f_Mo_fetch q0 q hq hd) (fun r1 h_r1 => ?_)
  refine po_n (fun q2 e_q2 => ?_)
  have h_q2 : z_pn q2 = z_pn q0 := by rw [e_q2]; exact h_r1
  refine po_n (fun q3 e_q3 => ?_)
  have h_q3 : z_pn q3 = z_pn q0 := by rw [e_q3]; exact h_q2
  refine po_n (fun q4 e_q4 => ?_)
  have h_q4 : z_pn q4 = z_pn q0 := by rw [e_q4]; exact h_q3
  exact po_s h_q4
set_option maxHeartbeats 4000000 in
set_option maxRecDepth 100000 in
theorem m_kb_Mo_fetchNumber_5 (q0 : z_Sg) (ih5 : Int32 × Int64 × Int32 × z_Sg → Option (Int64 × z_Sg)) (x1 : Int32) (x2 : Int64) (x4 : Int32) (q : z_Sg) (h_ih5 : ∀ a : Int32 × Int64 × Int32 × z_Sg, z_pk a.2.2.2 = z_pk q0 → z_po (ih5 a) (fun o : (Int64 × z_Sg) => z_pk o.2 = z_pk q0)) (hq : z_pk q = z_pk q0) : z_po (kb_Mo_fetchNumber_5 ih5 x1 x2 x4 q) (fun o : (Int64 × z_Sg) => z_pk o.2 = z_pk q0) := by
  unfold kb_Mo_fetchNumber_5
  refine po_i (fun _ => ?_) (fun _ => ?_)
  ·
    refine po_b (R := fun _ => True) (fun _ _ => trivial) (fun r2 _ => ?_)
    exact po_s hq
  ·
    refine po_b (m_f_Mo_fetch q0 q hq) (fun r3 h_r3 => ?_)
    refine po_n (fun n4 _ => ?_)
    refine po_n (fun n5 _ => ?_)
    exact h_ih5 _ h_r3
set_option maxHeartbeats 4000000 in
set_option maxRecDepth 100000 in
theorem d_kb_Mo_fetchNumber_5 (q0 : z_Sg) (ih5 : Int32 × Int64 × Int32 × z_Sg → Option (Int64 × z_Sg)) (x1 : Int32) (x2 : Int64) (x4 : Int32) (q : z_Sg) (h_ih5 : ∀ a : Int32 × Int64 × Int32 × z_Sg, z_pn a.2.2.2 = z_pn q0 → z_po (ih5 a) (fun o : (Int64 × z_Sg) => z_pn o.2 = z_pn q0)) (hq : z_pn q = z_pn q0) (hd : ¬ z_gI q0 4 = -1) : z_po (kb_Mo_fetchNumber_5 ih5 x1 x2 x4 q) (fun o : (Int64 × z_Sg) => z_pn o.2 = z_pn q0) := by
  unfold kb_Mo_fetchNumber_5
  refine po_i (fun _ => ?_) (fun _ => ?_)
  ·
    refine po_b (R := fun _ => True) (fun _ _ => trivial) (fun r2 _ => ?_)
    exact po_s hq
  ·
    refine po_b (d_f_Mo_fetch q0 q hq hd) (fun r3 h_r3 => ?_)
    refine po_n (fun n4 _ => ?_)
    refine po_n (fun n5 _ => ?_)
    exact h_ih5 _ h_r3
set_option maxHeartbeats 4000000 in
set_option maxRecDepth 100000 in
theorem m_k_Mo_fetchNumber_5 (q0 : z_Sg) (x1 : Int32) (x2 : Int64) (x4 : Int32) (q : z_Sg) (hq : z_pk q = z_pk q0) : z_po (k_Mo_fetchNumber_5 x1 x2 x4 q) (fun o : (Int64 × z_Sg) => z_pk o.2 = z_pk q0) := by
  unfold k_Mo_fetchNumber_5
  exact po_l (fun a : Int32 × Int64 × Int32 × z_Sg => z_pk a.2.2.2 = z_pk q0) (fun ih5 a ha hih => m_kb_Mo_fetchNumber_5 q0 ih5 a.1 a.2.1 a.2.2.1 a.2.2.2  hih ha) _ _ hq
set_option maxHeartbeats 4000000 in
set_option maxRecDepth 100000 in
theorem d_k_Mo_fetchNumber_5 (q0 : z_Sg) (x1 : Int32) (x2 : Int64) (x4 : Int32) (q : z_Sg) (hq : z_pn q = z_pn q0) (hd : ¬ z_gI q0 4 = -1) : z_po (k_Mo_fetchNumber_5 x1 x2 x4 q) (fun o : (Int64 × z_Sg) => z_pn o.2 = z_pn q0) := by
  unfold k_Mo_fetchNumber_5
  exact po_l (fun a : Int32 × Int64 × Int32 × z_Sg => z_pn a.2.2.2 = z_pn q0) (fun ih5 a ha hih => d_kb_Mo_fetchNumber_5 q0 ih5 a.1 a.2.1 a.2.2.1 a.2.2.2  hih ha hd) _ _ hq
set_option maxHeartbeats 4000000 in
set_option maxRecDepth 100000 in
theorem m_f_Mo_fetchNumber (q0 : z_Sg) (x1 : Int32) (q : z_Sg) (hq : z_pk q = z_pk q0) : z_po (f_Mo_fetchNumber x1 q) (fun o : (Int64 × z_Sg) => z_pk o.2 = z_pk q0) := by
  unfold f_Mo_fetchNumber
  exact m_k_Mo_fetchNumber_5 q0 x1 (0 : Int64) (0 : Int32) q hq
set_option maxHeartbeats 4000000 in
set_option maxRecDepth 100000 in
theorem d_f_Mo_fetchNumber (q0 : z_Sg) (x1 : Int32) (q : z_Sg) (hq : z_pn q = z_pn q0) (hd : ¬ z_gI q0 4 = -1) : z_po (f_Mo_fetchNumber x1 q) (fun o : (Int64 × z_Sg) => z_pn o.2 = z_pn q0) := by
  unfold f_Mo_fetchNumber
  exact d_k_Mo_fetchNumber_5 q0 x1 (0 : Int64) (0 : Int32) q hq hd
set_option maxHeartbeats 4000000 in
set_option maxRecDepth 100000 in
theorem m_k_Mo_takePlace_36 (q0 : z_Sg) (q : z_Sg) (hq : z_pk q = z_pk q0) : z_po (k_Mo_takePlace_36 q) (fun o : z_Sg => z_pk o = z_pk q0) := by
  unfold k_Mo_takePlace_36
  exact po_s hq
set_option maxHeartbeats 4000000 in
set_option maxRecDepth 100000 in
theorem d_k_Mo_takePlace_36 (q0 : z_Sg) (q : z_Sg) (hq : z_pn q = z_pn q0) : z_po (k_Mo_takePlace_36 q) (fun o : z_Sg => z_pn o = z_pn q0) := by
  unfold k_Mo_takePlace_36
  exact po_s hq
set_option maxHeartbeats 4000000 in
set_option maxRecDepth 100000 in
theorem m_k_Mo_takePlace_214 (q0 : z_Sg) (q : z_Sg) (hq : z_pk q = z_pk q0) : z_po (k_Mo_takePlace_214 q) (fun o : z_Sg => z_pk o = z_pk q0) := by
  unfold k_Mo_takePlace_214
  exact po_s hq
set_option maxHeartbeats 4000000 in
set_option maxRecDepth 100000 in
theorem d_k_Mo_takePlace_214 (q0 : z_Sg) (q : z_Sg) (hq : z_pn q = z_pn q0) : z_po (k_Mo_takePlace_214 q) (fun o : z_Sg => z_pn o = z_pn q0) := by
  unfold k_Mo_takePlace_214
  exact po_s hq
set_option maxHeartbeats 4000000 in
set_option maxRecDepth 100000 in
theorem m_k_Mo_takePlace_201 (q0 : z_Sg) (x1 : Int32) (q : z_Sg) (hq : z_pk q = z_pk q0) : z_po (k_Mo_takePlace_201 x1 q) (fun o : z_Sg => z_pk o = z_pk q0) := by
  unfold k_Mo_takePlace_201
  refine po_i (fun _ => ?_) (fun _ => ?_)
  ·
    exact m_k_Mo_takePlace_214 q0 q hq
  ·
    refine po_b (m_f_Mo_fetchNumber q0 x1 q hq) (fun r19 h_r19 => ?_)
    refine po_n (fun q20 e_q20 => ?_)
    have h_q20 : z_pk q20 = z_pk q0 := by rw [e_q20]; exact h_r19
    exact m_k_Mo_takePlace_214 q0 q20 h_q20
set_option maxHeartbeats 4000000 in
set_option maxRecDepth 100000 in
theorem d_k_Mo_takePlace_201 (q0 : z_Sg) (x1 : Int32) (q : z_Sg) (hq : z_pn q = z_pn q0) (hd : ¬ z_gI q0 4 = -1) : z_po (k_Mo_takePlace_201 x1 q) (fun o : z_Sg => z_pn o = z_pn q0) := by
  unfold k_Mo_takePlace_201
  refine po_i (fun _ => ?_) (fun _ => ?_)
  ·
    exact d_k_Mo_takePlace_214 q0 q hq
  ·
    refine po_b (d_f_Mo_fetchNumber q0 x1 q hq hd) (fun r19 h_r19 => ?_)
    refine po_n (fun q20 e_q20 => ?_)
    have h_q20 : z_pn q20 = z_pn q0 := by rw [e_q20]; exact h_r19
    exact d_k_Mo_takePlace_214 q0 q20 h_q20
set_option maxHeartbeats 4000000 in
set_option maxRecDepth 100000 in
theorem m_k_Mo_takePlace_187 (q0 : z_Sg) (x1 : Int32) (x2 : Int32) (q : z_Sg) (hq : z_pk q = z_pk q0) : z_po (k_Mo_takePlace_187 x1 x2 q) (fun o : z_Sg => z_pk o = z_pk q0) := by
  unfold k_Mo_takePlace_187
  refine po_b (R := fun _ => True) (fun _ _ => trivial) (fun r16 _ => ?_)
  refine po_n (fun q17 e_q17 => ?_)
  have h_q17 : z_pk q17 = z_pk q0 := by rw [e_q17]; exact hq
  exact m_k_Mo_takePlace_201 q0 x1 q17 h_q17
set_option maxHeartbeats 4000000 in
set_option maxRecDepth 100000 in
theorem d_k_Mo_takePlace_187 (q0 : z_Sg) (x1 : Int32) (x2 : Int32) (q : z_Sg) (hq : z_pn q = z_pn q0) (hd : ¬ z_gI q0 4 = -1) : z_po (k_Mo_takePlace_187 x1 x2 q) (fun o : z_Sg => z_pn o = z_pn q0) := by
  unfold k_Mo_takePlace_187
  refine po_b (R := fun _ => True) (fun _ _ => trivial) (fun r16 _ => ?_)
  refine po_n (fun q17 e_q17 => ?_)
  have h_q17 : z_pn q17 = z_pn q0 := by rw [e_q17]; exact hq
  exact d_k_Mo_takePlace_201 q0 x1 q17 h_q17 hd
set_option maxHeartbeats 4000000 in
set_option maxRecDepth 100000 in
theorem m_k_Mo_takePlace_167 (q0 : z_Sg) (x1 : Int32) (x2 : Int32) (q : z_Sg) (hq : z_pk q = z_pk q0) : z_po (k_Mo_takePlace_167 x1 x2 q) (fun o : z_Sg => z_pk o = z_pk q0) := by
  unfold k_Mo_takePlace_167
  refine po_i (fun _ => ?_) (fun _ => ?_)
  ·
    refine po_i (fun _ => ?_) (fun _ => ?_)
    ·
      exact m_k_Mo_takePlace_201 q0 (4 : Int32) q hq
    ·
      exact m_k_Mo_takePlace_187 q0 x1 x2 q hq
  ·
    exact m_k_Mo_takePlace_187 q0 x1 x2 q hq
set_option maxHeartbeats 4000000 in
set_option maxRecDepth 100000 in
theorem d_k_Mo_takePlace_167 (q0 : z_Sg) (x1 : Int32) (x2 : Int32) (q : z_Sg) (hq : z_pn q = z_pn q0) (hd : ¬ z_gI q0 4 = -1) : z_po (k_Mo_takePlace_167 x1 x2 q) (fun o : z_Sg => z_pn o = z_pn q0) := by
  unfold k_Mo_takePlace_167
  refine po_i (fun _ => ?_) (fun _ => ?_)
  ·
    refine po_i (fun _ => ?_) (fun _ => ?_)
    ·
      exact d_k_Mo_takePlace_201 q0 (4 : Int32) q hq hd
    ·
      exact d_k_Mo_takePlace_187 q0 x1 x2 q hq hd
  ·
    exact d_k_Mo_takePlace_187 q0 x1 x2 q hq hd
set_option maxHeartbeats 4000000 in
set_option maxRecDepth 100000 in
theorem m_k_Mo_takePlace_92 (q0 : z_Sg) (x1 : Int32) (t1 : Int32) (q : z_Sg) (hq : z_pk q = z_pk q0) : z_po (k_Mo_takePlace_92 x1 t1 q) (fun o : z_Sg => z_pk o = z_pk q0) := by
  unfold k_Mo_takePlace_92
  refine po_G (fun _ => ?_)
  refine po_n (fun q25 e_q25 => ?_)
  have h_q25 : z_pk q25 = z_pk q0 := by rw [e_q25]; exact hq
  refine po_i (fun _ => ?_) (fun _ => ?_)
  ·
    refine po_b (R := fun _ => True) (fun _ _ => trivial) (fun r27 _ => ?_)
    refine po_n (fun q28 e_q28 => ?_)
    have h_q28 : z_pk q28 = z_pk q0 := by rw [e_q28]; exact h_q25
    exact m_k_Mo_takePlace_201 q0 x1 q28 h_q28
  ·
    exact m_k_Mo_takePlace_201 q0 (4 : Int32) q25 h_q25
set_option maxHeartbeats 4000000 in
set_option maxRecDepth 100000 in
theorem d_k_Mo_takePlace_92 (q0 : z_Sg) (x1 : Int32) (t1 : Int32) (q : z_Sg) (hq : z_pn q = z_pn q0) (hd : ¬ z_gI q0 4 = -1) : z_po (k_Mo_takePlace_92 x1 t1 q) (fun o : z_Sg => z_pn o = z_pn q0) := by
  unfold k_Mo_takePlace_92
  refine po_G (fun _ => ?_)
  refine po_n (fun q25 e_q25 => ?_)
  have h_q25 : z_pn q25 = z_pn q0 := by rw [e_q25]; exact hq
  refine po_i (fun _ => ?_) (fun _ => ?_)
  ·
    refine po_b (R := fun _ => True) (fun _ _ => trivial) (fun r27 _ => ?_)
    refine po_n (fun q28 e_q28 => ?_)
    have h_q28 : z_pn q28 = z_pn q0 := by rw [e_q28]; exact h_q25
    exact d_k_Mo_takePlace_201 q0 x1 q28 h_q28 hd
  ·
    exact d_k_Mo_takePlace_201 q0 (4 : Int32) q25 h_q25 hd
set_option maxHeartbeats 4000000 in
set_option maxRecDepth 100000 in
theorem m_k_Mo_takePlace_91 (q0 : z_Sg) (x1 : Int32) (q : z_Sg) (hq : z_pk q = z_pk q0) : z_po (k_Mo_takePlace_91 x1 q) (fun o : z_Sg => z_pk o = z_pk q0) := by
  unfold k_Mo_takePlace_91
  exact m_k_Mo_takePlace_92 q0 x1 (0 : Int32) q hq
set_option maxHeartbeats 4000000 in
set_option maxRecDepth 100000 in
theorem d_k_Mo_takePlace_91 (q0 : z_Sg) (x1 : Int32) (q : z_Sg) (hq : z_pn q = z_pn q0) (hd : ¬ z_gI q0 4 = -1) : z_po (k_Mo_takePlace_91 x1 q) (fun o : z_Sg => z_pn o = z_pn q0) := by
  unfold k_Mo_takePlace_91
  exact d_k_Mo_takePlace_92 q0 x1 (0 : Int32) q hq hd
set_option maxHeartbeats 4000000 in
set_option maxRecDepth 100000 in
theorem m_k_Mo_takePlace_62 (q0 : z_Sg) (t0 : Int32) (q : z_Sg) (hq : z_pk q = z_pk q0) : z_po (k_Mo_takePlace_62 t0 q) (fun o : z_Sg => z_pk o = z_pk q0) := by
  unfold k_Mo_takePlace_62
  refine po_i (fun _ => ?_) (fun _ => ?_)
  ·
    refine po_b (m_f_Mo_fetch q0 q hq) (fun r10 h_r10 => ?_)
    refine po_n (fun q11 e_q11 => ?_)
    have h_q11 : z_pk q11 = z_pk q0 := by rw [e_q11]; exact h_r10
    refine po_b (R := fun _ => True) (fun _ _ => trivial) (fun r12 _ => ?_)
    refine po_n (fun q13 e_q13 => ?_)
    have h_q13 : z_pk q13 = z_pk q0 := by rw [e_q13]; exact h_q11
    refine po_i (fun _ => ?_) (fun _ => ?_)
    ·
      refine po_n (fun q22 e_q22 => ?_)
      have h_q22 : z_pk q22 = z_pk q0 := by rw [e_q22]; exact h_q13
      exact m_k_Mo_takePlace_167 q0 t0 r10.1 q22 h_q22
    ·
      exact m_k_Mo_takePlace_167 q0 t0 r10.1 q13 h_q13
  ·
    refine po_i (fun _ => ?_) (fun _ => ?_)
    ·
      refine po_i (fun _ => ?_) (fun _ => ?_)
      ·
        exact m_k_Mo_takePlace_92 q0 t0 (1 : Int32) q hq
      ·
        exact m_k_Mo_takePlace_91 q0 t0 q hq
    ·
      exact m_k_Mo_takePlace_91 q0 t0 q hq
set_option maxHeartbeats 4000000 in
set_option maxRecDepth 100000 in
theorem d_k_Mo_takePlace_62 (q0 : z_Sg) (t0 : Int32) (q : z_Sg) (hq : z_pn q = z_pn q0) (hd : ¬ z_gI q0 4 = -1) : z_po (k_Mo_takePlace_62 t0 q) (fun o : z_Sg => z_pn o = z_pn q0) := by
  unfold k_Mo_takePlace_62
  refine po_i (fun _ => ?_) (fun _ => ?_)
  ·
    refine po_b (d_f_Mo_fetch q0 q hq hd) (fun r10 h_r10 => ?_)
    refine po_n (fun q11 e_q11 => ?_)
    have h_q11 : z_pn q11 = z_pn q0 := by rw [e_q11]; exact h_r10
    refine po_b (R := fun _ => True) (fun _ _ => trivial) (fun r12 _ => ?_)
    refine po_n (fun q13 e_q13 => ?_)
    have h_q13 : z_pn q13 = z_pn q0 := by rw [e_q13]; exact h_q11
    refine po_i (fun _ => ?_) (fun _ => ?_)
    ·
      refine po_n (fun q22 e_q22 => ?_)
      have h_q22 : z_pn q22 = z_pn q0 := by rw [e_q22]; exact h_q13
      exact d_k_Mo_takePlace_167 q0 t0 r10.1 q22 h_q22 hd
    ·
      exact d_k_Mo_takePlace_167 q0 t0 r10.1 q13 h_q13 hd
  ·
    refine po_i (fun _ => ?_) (fun _ => ?_)
    ·
      refine po_i (fun _ => ?_) (fun _ => ?_)
      ·
        exact d_k_Mo_takePlace_92 q0 t0 (1 : Int32) q hq hd
      ·
        exact d_k_Mo_takePlace_91 q0 t0 q hq hd
    ·
      exact d_k_Mo_takePlace_91 q0 t0 q hq hd
set_option maxHeartbeats 4000000 in
set_option maxRecDepth 100000 in
theorem m_f_Mo_takePlace (q0 : z_Sg) (q : z_Sg) (hq : z_pk q = z_pk q0) : z_po (f_Mo_takePlace q) (fun o : z_Sg => z_pk o = z_pk q0) := by
  unfold f_Mo_takePlace
  refine po_n (fun q1 e_q1 => ?_)
  have h_q1 : z_pk q1 = z_pk q0 := by rw [e_q1]; exact hq
  refine po_n (fun q2 e_q2 => ?_)
  have h_q2 : z_pk q2 = z_pk q0 := by rw [e_q2]; exact h_q1
  refine po_n (fun q3 e_q3 => ?_)
  have h_q3 : z_pk q3 = z_pk q0 := by rw [e_q3]; exact h_q2
  refine po_n (fun q4 e_q4 => ?_)
  have h_q4 : z_pk q4 = z_pk q0 := by rw [e_q4]; exact h_q3
  refine po_i (fun _ => ?_) (fun _ => ?_)
  ·
    exact m_k_Mo_takePlace_36 q0 q4 h_q4
  ·
    refine po_i (fun _ => ?_) (fun _ => ?_)
    ·
      refine po_i (fun _ => ?_) (fun _ => ?_)
      ·
        exact m_k_Mo_takePlace_62 q0 (1 : Int32) q4 h_q4
      ·
        refine po_i (fun _ => ?_) (fun _ => ?_)
        ·
          exact m_k_Mo_takePlace_62 q0 (4 : Int32) q4 h_q4
        ·
          exact m_k_Mo_takePlace_62 q0 (0 : Int32) q4 h_q4
    ·
      exact m_k_Mo_takePlace_36 q0 q4 h_q4
set_option maxHeartbeats 4000000 in
set_option maxRecDepth 100000 in
theorem d_f_Mo_takePlace (q0 : z_Sg) (q : z_Sg) (hq : z_pn q = z_pn q0) (hd : ¬ z_gI q0 4 = -1) : z_po (f_Mo_takePlace q) (fun o : z_Sg => z_pn o = z_pn q0) := by
  unfold f_Mo_takePlace
  refine po_n (fun q1 e_q1 => ?_)
  have h_q1 : z_pn q1 = z_pn q0 := by rw [e_q1]; exact hq
  refine po_n (fun q2 e_q2 => ?_)
  have h_q2 : z_pn q2 = z_pn q0 := by rw [e_q2]; exact h_q1
  refine po_n (fun q3 e_q3 => ?_)
  have h_q3 : z_pn q3 = z_pn q0 := by rw [e_q3]; exact h_q2
  refine po_n (fun q4 e_q4 => ?_)
  have h_q4 : z_pn q4 = z_pn q0 := by rw [e_q4]; exact h_q3
  refine po_i (fun _ => ?_) (fun _ => ?_)
  ·
    exact d_k_Mo_takePlace_36 q0 q4 h_q4
  ·
    refine po_f (pn_d h_q4 hd) ?_
    exact d_k_Mo_takePlace_36 q0 q4 h_q4
set_option maxHeartbeats 4000000 in
set_option maxRecDepth 100000 in
theorem m_f_Mo_takeOperand (q0 : z_Sg) (q : z_Sg) (hq : z_pk q = z_pk q0) : z_po (f_Mo_takeOperand q) (fun o : z_Sg => z_pk o = z_pk q0) := by
  unfold f_Mo_takeOperand
  refine po_b (m_f_Mo_takeMod q0 q hq) (fun r1 h_r1 => ?_)
  refine po_b (m_f_Mo_takePlace q0 r1 h_r1) (fun r2 h_r2 => ?_)
  refine po_n (fun q3 e_q3 => ?_)
  have h_q3 : z_pk q3 = z_pk q0 := by rw [e_q3]; exact h_r2
  exact po_s h_q3
set_option maxHeartbeats 4000000 in
set_option maxRecDepth 100000 in
theorem d_f_Mo_takeOperand (q0 : z_Sg) (q : z_Sg) (hq : z_pn q = z_pn q0) (hd : ¬ z_gI q0 4 = -1) : z_po (f_Mo_takeOperand q) (fun o : z_Sg => z_pn o = z_pn q0) := by
  unfold f_Mo_takeOperand
  refine po_b (d_f_Mo_takeMod q0 q hq hd) (fun r1 h_r1 => ?_)
  refine po_b (d_f_Mo_takePlace q0 r1 h_r1 hd) (fun r2 h_r2 => ?_)
  refine po_n (fun q3 e_q3 => ?_)
  have h_q3 : z_pn q3 = z_pn q0 := by rw [e_q3]; exact h_r2
  exact po_s h_q3
set_option maxHeartbeats 4000000 in
set_option maxRecDepth 100000 in
theorem m_f_Mo_number (q0 : z_Sg) (x1 : Int32) (q : z_Sg) (hq : z_pk q = z_pk q0) : z_po (f_Mo_number x1 q) (fun o : (Int64 × z_Sg) => z_pk o.2 = z_pk q0) := by
  unfold f_Mo_number
  refine po_b (m_f_Mo_fetchNumber q0 x1 q hq) (fun r1 h_r1 => ?_)
  refine po_n (fun q2 e_q2 => ?_)
  have h_q2 : z_pk q2 = z_pk q0 := by rw [e_q2]; exact h_r1
  exact po_s h_q2
set_option maxHeartbeats 4000000 in
set_option maxRecDepth 100000 in
theorem d_f_Mo_number (q0 : z_Sg) (x1 : Int32) (q : z_Sg) (hq : z_pn q = z_pn q0) (hd : ¬ z_gI q0 4 = -1) : z_po (f_Mo_number x1 q) (fun o : (Int64 × z_Sg) => z_pn o.2 = z_pn q0) := by
  unfold f_Mo_number
  refine po_b (d_f_Mo_fetchNumber q0 x1 q hq hd) (fun r1 h_r1 => ?_)
  refine po_n (fun q2 e_q2 => ?_)
  have h_q2 : z_pn q2 = z_pn q0 := by rw [e_q2]; exact h_r1
  exact po_s h_q2
set_option maxHeartbeats 4000000 in
set_option maxRecDepth 100000 in
theorem m_k_Mo_e_55 (q0 : z_Sg) (t0 : Int64) (q : z_Sg) (hq : z_pk q = z_pk q0) : z_po (k_Mo_e_55 t0 q) (fun o : (Int64 × z_Sg) => z_pk o.2 = z_pk q0) := by
  unfold k_Mo_e_55
  exact po_s hq
set_option maxHeartbeats 4000000 in
set_option maxRecDepth 100000 in
theorem d_k_Mo_e_55 (q0 : z_Sg) (t0 : Int64) (q : z_Sg) (hq : z_pn q = z_pn q0) : z_po (k_Mo_e_55 t0 q) (fun o : (Int64 × z_Sg) => z_pn o.2 = z_pn q0) := by
  unfold k_Mo_e_55
  exact po_s hq
set_option maxHeartbeats 4000000 in
set_option maxRecDepth 100000 in
theorem m_f_Mo_e (q0 : z_Sg) (x1 : Int32) (x2 : Int32) (q : z_Sg) (hq : z_pk q = z_pk q0) : z_po (f_Mo_e x1 x2 q) (fun o : (Int64 × z_Sg) => z_pk o.2 = z_pk q0) := by
  unfold f_Mo_e
  refine po_i (fun _ => ?_) (fun _ => ?_)
  ·
    refine po_b (R := fun _ => True) (fun _ _ => trivial) (fun r7 _ => ?_)
    refine po_b (R := fun _ => True) (fun _ _ => trivial) (fun r8 _ => ?_)
    exact po_s hq
  ·
    refine po_b (R := fun _ => True) (fun _ _ => trivial) (fun r2 _ => ?_)
    refine po_b (R := fun _ => True) (fun _ _ => trivial) (fun r3 _ => ?_)
    refine po_b (m_f_Mo_lookUp q0 r2 x1 x2 r3 q hq) (fun r4 h_r4 => ?_)
    refine po_i (fun _ => ?_) (fun _ => ?_)
    ·
      refine po_b (R := fun _ => True) (fun _ _ => trivial) (fun r6 _ => ?_)
      exact m_k_Mo_e_55 q0 r6 r4 h_r4
    ·
      exact m_k_Mo_e_55 q0 (0 : Int64) r4 h_r4
set_option maxHeartbeats 4000000 in
set_option maxRecDepth 100000 in
theorem d_f_Mo_e (q0 : z_Sg) (x1 : Int32) (x2 : Int32) (q : z_Sg) (hq : z_pn q = z_pn q0) (hd : ¬ z_gI q0 4 = -1) : z_po (f_Mo_e x1 x2 q) (fun o : (Int64 × z_Sg) => z_pn o.2 = z_pn q0) := by
  unfold f_Mo_e
  refine po_i (fun _ => ?_) (fun _ => ?_)
  ·
    refine po_b (R := fun _ => True) (fun _ _ => trivial) (fun r7 _ => ?_)
    refine po_b (R := fun _ => True) (fun _ _ => trivial) (fun r8 _ => ?_)
    exact po_s hq
  ·
    refine po_b (R := fun _ => True) (fun _ _ => trivial) (fun r2 _ => ?_)
    refine po_b (R := fun _ => True) (fun _ _ => trivial) (fun r3 _ => ?_)
    refine po_b (d_f_Mo_lookUp q0 r2 x1 x2 r3 q hq hd) (fun r4 h_r4 => ?_)
    refine po_f (pn_d h_r4 hd) ?_
    exact d_k_Mo_e_55 q0 (0 : Int64) r4 h_r4
set_option maxHeartbeats 4000000 in
set_option maxRecDepth 100000 in
theorem m_k_Mo_result_111 (q0 : z_Sg) (t1 : Int32) (t2 : Int32) (q : z_Sg) (hq : z_pk q = z_pk q0) : z_po (k_Mo_result_111 t1 t2 q) (fun o : z_Sg => z_pk o = z_pk q0) := by
  unfold k_Mo_result_111
  refine po_g (fun _ => ?_)
  refine po_n (fun q10 e_q10 => ?_)
  have h_q10 : z_pk q10 = z_pk q0 := by rw [e_q10]; exact hq
  exact po_s h_q10
set_option maxHeartbeats 4000000 in
set_option maxRecDepth 100000 in
theorem d_k_Mo_result_111 (q0 : z_Sg) (t1 : Int32) (t2 : Int32) (q : z_Sg) (hq : z_pn q = z_pn q0) : z_po (k_Mo_result_111 t1 t2 q) (fun o : z_Sg => z_pn o = z_pn q0) := by
  unfold k_Mo_result_111
  refine po_g (fun _ => ?_)
  refine po_n (fun q10 e_q10 => ?_)
  have h_q10 : z_pn q10 = z_pn q0 := by rw [e_q10]; exact hq
  exact po_s h_q10
set_option maxHeartbeats 4000000 in
set_option maxRecDepth 100000 in
theorem m_kb_Mo_result_50 (q0 : z_Sg) (ih50 : Int64 × Int32 × Int32 × Int32 × Int32 × z_Sg → Option z_Sg) (x1 : Int64) (x3 : Int32) (x4 : Int32) (x5 : Int32) (x6 : Int32) (q : z_Sg) (h_ih50 : ∀ a : Int64 × Int32 × Int32 × Int32 × Int32 × z_Sg, z_pk a.2.2.2.2.2 = z_pk q0 → z_po (ih50 a) (fun o : z_Sg => z_pk o = z_pk q0)) (hq : z_pk q = z_pk q0) : z_po (kb_Mo_result_50 ih50 x1 x3 x4 x5 x6 q) (fun o : z_Sg => z_pk o = z_pk q0) := by
  unfold kb_Mo_result_50
  refine po_i (fun _ => ?_) (fun _ => ?_)
  ·
    refine po_g (fun _ => ?_)
    refine po_n (fun q4 e_q4 => ?_)
    have h_q4 : z_pk q4 = z_pk q0 := by rw [e_q4]; exact hq
    refine po_b (R := fun _ => True) (fun _ _ => trivial) (fun r5 _ => ?_)
    refine po_g (fun _ => ?_)
    refine po_n (fun q7 e_q7 => ?_)
    have h_q7 : z_pk q7 = z_pk q0 := by rw [e_q7]; exact h_q4
    refine po_i (fun _ => ?_) (fun _ => ?_)
    ·
      exact m_k_Mo_result_111 q0 (1 : Int32) (1 : Int32) q7 h_q7
    ·
      exact m_k_Mo_result_111 q0 (1 : Int32) (0 : Int32) q7 h_q7
  ·
    refine po_n (fun n11 _ => ?_)
    refine po_n (fun n12 _ => ?_)
    exact h_ih50 _ hq
set_option maxHeartbeats 4000000 in
set_option maxRecDepth 100000 in
theorem d_kb_Mo_result_50 (q0 : z_Sg) (ih50 : Int64 × Int32 × Int32 × Int32 × Int32 × z_Sg → Option z_Sg) (x1 : Int64) (x3 : Int32) (x4 : Int32) (x5 : Int32) (x6 : Int32) (q : z_Sg) (h_ih50 : ∀ a : Int64 × Int32 × Int32 × Int32 × Int32 × z_Sg, z_pn a.2.2.2.2.2 = z_pn q0 → z_po (ih50 a) (fun o : z_Sg => z_pn o = z_pn q0)) (hq : z_pn q = z_pn q0) : z_po (kb_Mo_result_50 ih50 x1 x3 x4 x5 x6 q) (fun o : z_Sg => z_pn o = z_pn q0) := by
  unfold kb_Mo_result_50
  refine po_i (fun _ => ?_) (fun _ => ?_)
  ·
    refine po_g (fun _ => ?_)
    refine po_n (fun q4 e_q4 => ?_)
    have h_q4 : z_pn q4 = z_pn q0 := by rw [e_q4]; exact hq
    refine po_b (R := fun _ => True) (fun _ _ => trivial) (fun r5 _ => ?_)
    refine po_g (fun _ => ?_)
    refine po_n (fun q7 e_q7 => ?_)
    have h_q7 : z_pn q7 = z_pn q0 := by rw [e_q7]; exact h_q4
    refine po_i (fun _ => ?_) (fun _ => ?_)
    ·
      exact d_k_Mo_result_111 q0 (1 : Int32) (1 : Int32) q7 h_q7
    ·
      exact d_k_Mo_result_111 q0 (1 : Int32) (0 : Int32) q7 h_q7
  ·
    refine po_n (fun n11 _ => ?_)
    refine po_n (fun n12 _ => ?_)
    exact h_ih50 _ hq
set_option maxHeartbeats 4000000 in
set_option maxRecDepth 100000 in
theorem m_k_Mo_result_50 (q0 : z_Sg) (x1 : Int64) (x3 : Int32) (x4 : Int32) (x5 : Int32) (x6 : Int32) (q : z_Sg) (hq : z_pk q = z_pk q0) : z_po (k_Mo_result_50 x1 x3 x4 x5 x6 q) (fun o : z_Sg => z_pk o = z_pk q0) := by
  unfold k_Mo_result_50
  exact po_l (fun a : Int64 × Int32 × Int32 × Int32 × Int32 × z_Sg => z_pk a.2.2.2.2.2 = z_pk q0) (fun ih50 a ha hih => m_kb_Mo_result_50 q0 ih50 a.1 a.2.1 a.2.2.1 a.2.2.2.1 a.2.2.2.2.1 a.2.2.2.2.2  hih ha) _ _ hq
set_option maxHeartbeats 4000000 in
set_option maxRecDepth 100000 in
theorem d_k_Mo_result_50 (q0 : z_Sg) (x1 : Int64) (x3 : Int32) (x4 : Int32) (x5 : Int32) (x6 : Int32) (q : z_Sg) (hq : z_pn q = z_pn q0) : z_po (k_Mo_result_50 x1 x3 x4 x5 x6 q) (fun o : z_Sg => z_pn o = z_pn q0) := by
  unfold k_Mo_result_50
  exact po_l (fun a : Int64 × Int32 × Int32 × Int32 × Int32 × z_Sg => z_pn a.2.2.2.2.2 = z_pn q0) (fun ih50 a ha hih => d_kb_Mo_result_50 q0 ih50 a.1 a.2.1 a.2.2.1 a.2.2.2.1 a.2.2.2.2.1 a.2.2.2.2.2  hih ha) _ _ hq
set_option maxHeartbeats 4000000 in
set_option maxRecDepth 100000 in
theorem m_k_Mo_result_39 (q0 : z_Sg) (ih9 : Int64 × Int32 × Int32 × Int32 × Int32 × z_Sg → Option z_Sg) (x1 : Int64) (x3 : Int32) (x5 : Int32) (x6 : Int32) (t0 : Int32) (q : z_Sg) (h_ih9 : ∀ a : Int64 × Int32 × Int32 × Int32 × Int32 × z_Sg, z_pk a.2.2.2.2.2 = z_pk q0 → z_po (ih9 a) (fun o : z_Sg => z_pk o = z_pk q0)) (hq : z_pk q = z_pk q0) : z_po (k_Mo_result_39 ih9 x1 x3 x5 x6 t0 q) (fun o : z_Sg => z_pk o = z_pk q0) := by
  unfold k_Mo_result_39
  refine po_n (fun n14 _ => ?_)
  exact h_ih9 _ hq
set_option maxHeartbeats 4000000 in
set_option maxRecDepth 100000 in
theorem d_k_Mo_result_39 (q0 : z_Sg) (ih9 : Int64 × Int32 × Int32 × Int32 × Int32 × z_Sg → Option z_Sg) (x1 : Int64) (x3 : Int32) (x5 : Int32) (x6 : Int32) (t0 : Int32) (q : z_Sg) (h_ih9 : ∀ a : Int64 × Int32 × Int32 × Int32 × Int32 × z_Sg, z_pn a.2.2.2.2.2 = z_pn q0 → z_po (ih9 a) (fun o : z_Sg => z_pn o = z_pn q0)) (hq : z_pn q = z_pn q0) : z_po (k_Mo_result_39 ih9 x1 x3 x5 x6 t0 q) (fun o : z_Sg => z_pn o = z_pn q0) := by
  unfold k_Mo_result_39
  refine po_n (fun n14 _ => ?_)
  exact h_ih9 _ hq
set_option maxHeartbeats 4000000 in
set_option maxRecDepth 100000 in
theorem m_k_Mo_result_38 (q0 : z_Sg) (ih9 : Int64 × Int32 × Int32 × Int32 × Int32 × z_Sg → Option z_Sg) (x1 : Int64) (x3 : Int32) (x5 : Int32) (x6 : Int32) (q : z_Sg) (h_ih9 : ∀ a : Int64 × Int32 × Int32 × Int32 × Int32 × z_Sg, z_pk a.2.2.2.2.2 = z_pk q0 → z_po (ih9 a) (fun o : z_Sg => z_pk o = z_pk q0)) (hq : z_pk q = z_pk q0) : z_po (k_Mo_result_38 ih9 x1 x3 x5 x6 q) (fun o : z_Sg => z_pk o = z_pk q0) := by
  unfold k_Mo_result_38
  exact m_k_Mo_result_39 q0 ih9 x1 x3 x5 x6 (0 : Int32) q h_ih9 hq
set_option maxHeartbeats 4000000 in
set_option maxRecDepth 100000 in
theorem d_k_Mo_result_38 (q0 : z_Sg) (ih9 : Int64 × Int32 × Int32 × Int32 × Int32 × z_Sg → Option z_Sg) (x1 : Int64) (x3 : Int32) (x5 : Int32) (x6 : Int32) (q : z_Sg) (h_ih9 : ∀ a : Int64 × Int32 × Int32 × Int32 × Int32 × z_Sg, z_pn a.2.2.2.2.2 = z_pn q0 → z_po (ih9 a) (fun o : z_Sg => z_pn o = z_pn q0)) (hq : z_pn q = z_pn q0) : z_po (k_Mo_result_38 ih9 x1 x3 x5 x6 q) (fun o : z_Sg => z_pn o = z_pn q0) := by
  unfold k_Mo_result_38
  exact d_k_Mo_result_39 q0 ih9 x1 x3 x5 x6 (0 : Int32) q h_ih9 hq
set_option maxHeartbeats 4000000 in
set_option maxRecDepth 100000 in
theorem m_kb_Mo_result_9 (q0 : z_Sg) (ih9 : Int64 × Int32 × Int32 × Int32 × Int32 × z_Sg → Option z_Sg) (x1 : Int64) (x3 : Int32) (x4 : Int32) (x5 : Int32) (x6 : Int32) (q : z_Sg) (h_ih9 : ∀ a : Int64 × Int32 × Int32 × Int32 × Int32 × z_Sg, z_pk a.2.2.2.2.2 = z_pk q0 → z_po (ih9 a) (fun o : z_Sg => z_pk o = z_pk q0)) (hq : z_pk q = z_pk q0) : z_po (kb_Mo_result_9 ih9 x1 x3 x4 x5 x6 q) (fun o : z_Sg => z_pk o = z_pk q0) := by
  unfold kb_Mo_result_9
  refine po_i (fun _ => ?_) (fun _ => ?_)
  ·
    exact m_k_Mo_result_50 q0 x1 x3 x4 x5 (0 : Int32) q hq
  ·
    refine po_i (fun _ => ?_) (fun _ => ?_)
    ·
      exact m_k_Mo_result_38 q0 ih9 x1 x3 x5 x6 q h_ih9 hq
    ·
      refine po_i (fun _ => ?_) (fun _ => ?_)
      ·
        exact m_k_Mo_result_39 q0 ih9 x1 x3 x5 x6 (1 : Int32) q h_ih9 hq
      ·
        exact m_k_Mo_result_38 q0 ih9 x1 x3 x5 x6 q h_ih9 hq
set_option maxHeartbeats 4000000 in
set_option maxRecDepth 100000 in
theorem d_kb_Mo_result_9 (q0 : z_Sg) (ih9 : Int64 × Int32 × Int32 × Int32 × Int32 × z_Sg → Option z_Sg) (x1 : Int64) (x3 : Int32) (x4 : Int32) (x5 : Int32) (x6 : Int32) (q : z_Sg) (h_ih9 : ∀ a : Int64 × Int32 × Int32 × Int32 × Int32 × z_Sg, z_pn a.2.2.2.2.2 = z_pn q0 → z_po (ih9 a) (fun o : z_Sg => z_pn o = z_pn q0)) (hq : z_pn q = z_pn q0) : z_po (kb_Mo_result_9 ih9 x1 x3 x4 x5 x6 q) (fun o : z_Sg => z_pn o = z_pn q0) := by
  unfold kb_Mo_result_9
  refine po_i (fun _ => ?_) (fun _ => ?_)
  ·
    exact d_k_Mo_result_50 q0 x1 x3 x4 x5 (0 : Int32) q hq
  ·
    refine po_i (fun _ => ?_) (fun _ => ?_)
    ·
      exact d_k_Mo_result_38 q0 ih9 x1 x3 x5 x6 q h_ih9 hq
    ·
      refine po_i (fun _ => ?_) (fun _ => ?_)
      ·
        exact d_k_Mo_result_39 q0 ih9 x1 x3 x5 x6 (1 : Int32) q h_ih9 hq
      ·
        exact d_k_Mo_result_38 q0 ih9 x1 x3 x5 x6 q h_ih9 hq
set_option maxHeartbeats 4000000 in
set_option maxRecDepth 100000 in
theorem m_k_Mo_result_9 (q0 : z_Sg) (x1 : Int64) (x3 : Int32) (x4 : Int32) (x5 : Int32) (x6 : Int32) (q : z_Sg) (hq : z_pk q = z_pk q0) : z_po (k_Mo_result_9 x1 x3 x4 x5 x6 q) (fun o : z_Sg => z_pk o = z_pk q0) := by
  unfold k_Mo_result_9
  exact po_l (fun a : Int64 × Int32 × Int32 × Int32 × Int32 × z_Sg => z_pk a.2.2.2.2.2 = z_pk q0) (fun ih9 a ha hih => m_kb_Mo_result_9 q0 ih9 a.1 a.2.1 a.2.2.1 a.2.2.2.1 a.2.2.2.2.1 a.2.2.2.2.2  hih ha) _ _ hq
set_option maxHeartbeats 4000000 in
set_option maxRecDepth 100000 in
theorem d_k_Mo_result_9 (q0 : z_Sg) (x1 : Int64) (x3 : Int32) (x4 : Int32) (x5 : Int32) (x6 : Int32) (q : z_Sg) (hq : z_pn q = z_pn q0) : z_po (k_Mo_result_9 x1 x3 x4 x5 x6 q) (fun o : z_Sg => z_pn o = z_pn q0) := by
  unfold k_Mo_result_9
  exact po_l (fun a : Int64 × Int32 × Int32 × Int32 × Int32 × z_Sg => z_pn a.2.2.2.2.2 = z_pn q0) (fun ih9 a ha hih => d_kb_Mo_result_9 q0 ih9 a.1 a.2.1 a.2.2.1 a.2.2.2.1 a.2.2.2.2.1 a.2.2.2.2.2  hih ha) _ _ hq
set_option maxHeartbeats 4000000 in
set_option maxRecDepth 100000 in
theorem m_f_Mo_result (q0 : z_Sg) (x1 : Int64) (x3 : Int32) (q : z_Sg) (hq : z_pk q = z_pk q0) : z_po (f_Mo_result x1 x3 q) (fun o : z_Sg => z_pk o = z_pk q0) := by
  unfold f_Mo_result
  exact m_k_Mo_result_9 q0 x1 x3 (1 : Int32) (0 : Int32) (0 : Int32) q hq
set_option maxHeartbeats 4000000 in
set_option maxRecDepth 100000 in
theorem d_f_Mo_result (q0 : z_Sg) (x1 : Int64) (x3 : Int32) (q : z_Sg) (hq : z_pn q = z_pn q0) : z_po (f_Mo_result x1 x3 q) (fun o : z_Sg => z_pn o = z_pn q0) := by
  unfold f_Mo_result
  exact d_k_Mo_result_9 q0 x1 x3 (1 : Int32) (0 : Int32) (0 : Int32) q hq
set_option maxHeartbeats 4000000 in
set_option maxRecDepth 100000 in
theorem m_k_Mo_add_184 (q0 : z_Sg) (x7 : Int32) (x8 : Int64) (t1 : Int32) (t2 : Int32) (q : z_Sg) (hq : z_pk q = z_pk q0) : z_po (k_Mo_add_184 x7 x8 t1 t2 q) (fun o : (Int64 × z_Sg) => z_pk o.2 = z_pk q0) := by
  unfold k_Mo_add_184
  refine po_g (fun _ => ?_)
  refine po_n (fun q8 e_q8 => ?_)
  have h_q8 : z_pk q8 = z_pk q0 := by rw [e_q8]; exact hq
  refine po_b (m_f_Mo_result q0 x8 x7 q8 h_q8) (fun r9 h_r9 => ?_)
  exact po_s h_r9
set_option maxHeartbeats 4000000 in
set_option maxRecDepth 100000 in
theorem d_k_Mo_add_184 (q0 : z_Sg) (x7 : Int32) (x8 : Int64) (t1 : Int32) (t2 : Int32) (q : z_Sg) (hq : z_pn q = z_pn q0) : z_po (k_Mo_add_184 x7 x8 t1 t2 q) (fun o : (Int64 × z_Sg) => z_pn o.2 = z_pn q0) := by
  unfold k_Mo_add_184
  refine po_g (fun _ => ?_)
  refine po_n (fun q8 e_q8 => ?_)
  have h_q8 : z_pn q8 = z_pn q0 := by rw [e_q8]; exact hq
  refine po_b (d_f_Mo_result q0 x8 x7 q8 h_q8) (fun r9 h_r9 => ?_)
  exact po_s h_r9
set_option maxHeartbeats 4000000 in
set_option maxRecDepth 100000 in
theorem m_k_Mo_add_165 (q0 : z_Sg) (x7 : Int32) (x8 : Int64) (x10 : Int32) (x11 : Int32) (t1 : Int32) (t2 : Int32) (q : z_Sg) (hq : z_pk q = z_pk q0) : z_po (k_Mo_add_165 x7 x8 x10 x11 t1 t2 q) (fun o : (Int64 × z_Sg) => z_pk o.2 = z_pk q0) := by
  unfold k_Mo_add_165
  refine po_g (fun _ => ?_)
  refine po_n (fun q5 e_q5 => ?_)
  have h_q5 : z_pk q5 = z_pk q0 := by rw [e_q5]; exact hq
  refine po_i (fun _ => ?_) (fun _ => ?_)
  ·
    exact m_k_Mo_add_184 q0 x7 x8 (6 : Int32) (0 : Int32) q5 h_q5
  ·
    exact m_k_Mo_add_184 q0 x7 x8 (6 : Int32) (1 : Int32) q5 h_q5
set_option maxHeartbeats 4000000 in
set_option maxRecDepth 100000 in
theorem d_k_Mo_add_165 (q0 : z_Sg) (x7 : Int32) (x8 : Int64) (x10 : Int32) (x11 : Int32) (t1 : Int32) (t2 : Int32) (q : z_Sg) (hq : z_pn q = z_pn q0) : z_po (k_Mo_add_165 x7 x8 x10 x11 t1 t2 q) (fun o : (Int64 × z_Sg) => z_pn o.2 = z_pn q0) := by
  unfold k_Mo_add_165
  refine po_g (fun _ => ?_)
  refine po_n (fun q5 e_q5 => ?_)
  have h_q5 : z_pn q5 = z_pn q0 := by rw [e_q5]; exact hq
  refine po_i (fun _ => ?_) (fun _ => ?_)
  ·
    exact d_k_Mo_add_184 q0 x7 x8 (6 : Int32) (0 : Int32) q5 h_q5
  ·
    exact d_k_Mo_add_184 q0 x7 x8 (6 : Int32) (1 : Int32) q5 h_q5
set_option maxHeartbeats 4000000 in
set_option maxRecDepth 100000 in
theorem m_k_Mo_add_143 (q0 : z_Sg) (ih21 : Int64 × Int64 × Int32 × Int32 × Int64 × Int32 × Int32 × Int32 × z_Sg → Option (Int64 × z_Sg)) (x1 : Int64) (x3 : Int64) (x6 : Int32) (x7 : Int32) (x8 : Int64) (x10 : Int32) (x11 : Int32) (x12 : Int32) (q : z_Sg) (h_ih21 : ∀ a : Int64 × Int64 × Int32 × Int32 × Int64 × Int32 × Int32 × Int32 × z_Sg, z_pk a.2.2.2.2.2.2.2.2 = z_pk q0 → z_po (ih21 a) (fun o : (Int64 × z_Sg) => z_pk o.2 = z_pk q0)) (hq : z_pk q = z_pk q0) : z_po (k_Mo_add_143 ih21 x1 x3 x6 x7 x8 x10 x11 x12 q) (fun o : (Int64 × z_Sg) => z_pk o.2 = z_pk q0) := by
  unfold k_Mo_add_143
  refine po_n (fun n16 _ => ?_)
  exact h_ih21 _ hq
set_option maxHeartbeats 4000000 in
set_option maxRecDepth 100000 in
theorem d_k_Mo_add_143 (q0 : z_Sg) (ih21 : Int64 × Int64 × Int32 × Int32 × Int64 × Int32 × Int32 × Int32 × z_Sg → Option (Int64 × z_Sg)) (x1 : Int64) (x3 : Int64) (x6 : Int32) (x7 : Int32) (x8 : Int64) (x10 : Int32) (x11 : Int32) (x12 : Int32) (q : z_Sg) (h_ih21 : ∀ a : Int64 × Int64 × Int32 × Int32 × Int64 × Int32 × Int32 × Int32 × z_Sg, z_pn a.2.2.2.2.2.2.2.2 = z_pn q0 → z_po (ih21 a) (fun o : (Int64 × z_Sg) => z_pn o.2 = z_pn q0)) (hq : z_pn q = z_pn q0) : z_po (k_Mo_add_143 ih21 x1 x3 x6 x7 x8 x10 x11 x12 q) (fun o : (Int64 × z_Sg) => z_pn o.2 = z_pn q0) := by
  unfold k_Mo_add_143
  refine po_n (fun n16 _ => ?_)
  exact h_ih21 _ hq
set_option maxHeartbeats 4000000 in
set_option maxRecDepth 100000 in
theorem m_k_Mo_add_142 (q0 : z_Sg) (ih21 : Int64 × Int64 × Int32 × Int32 × Int64 × Int32 × Int32 × Int32 × z_Sg → Option (Int64 × z_Sg)) (x1 : Int64) (x3 : Int64) (x6 : Int32) (x7 : Int32) (x8 : Int64) (x10 : Int32) (x11 : Int32) (x12 : Int32) (t1 : Int32) (t2 : Int32) (q : z_Sg) (h_ih21 : ∀ a : Int64 × Int64 × Int32 × Int32 × Int64 × Int32 × Int32 × Int32 × z_Sg, z_pk a.2.2.2.2.2.2.2.2 = z_pk q0 → z_po (ih21 a) (fun o : (Int64 × z_Sg) => z_pk o.2 = z_pk q0)) (hq : z_pk q = z_pk q0) : z_po (k_Mo_add_142 ih21 x1 x3 x6 x7 x8 x10 x11 x12 t1 t2 q) (fun o : (Int64 × z_Sg) => z_pk o.2 = z_pk q0) := by
  unfold k_Mo_add_142
  refine po_g (fun _ => ?_)
  refine po_n (fun q19 e_q19 => ?_)
  have h_q19 : z_pk q19 = z_pk q0 := by rw [e_q19]; exact hq
  exact m_k_Mo_add_143 q0 ih21 x1 x3 x6 x7 x8 x10 x11 x12 q19 h_ih21 h_q19
set_option maxHeartbeats 4000000 in
set_option maxRecDepth 100000 in
theorem d_k_Mo_add_142 (q0 : z_Sg) (ih21 : Int64 × Int64 × Int32 × Int32 × Int64 × Int32 × Int32 × Int32 × z_Sg → Option (Int64 × z_Sg)) (x1 : Int64) (x3 : Int64) (x6 : Int32) (x7 : Int32) (x8 : Int64) (x10 : Int32) (x11 : Int32) (x12 : Int32) (t1 : Int32) (t2 : Int32) (q : z_Sg) (h_ih21 : ∀ a : Int64 × Int64 × Int32 × Int32 × Int64 × Int32 × Int32 × Int32 × z_Sg, z_pn a.2.2.2.2.2.2.2.2 = z_pn q0 → z_po (ih21 a) (fun o : (Int64 × z_Sg) => z_pn o.2 = z_pn q0)) (hq : z_pn q = z_pn q0) : z_po (k_Mo_add_142 ih21 x1 x3 x6 x7 x8 x10 x11 x12 t1 t2 q) (fun o : (Int64 × z_Sg) => z_pn o.2 = z_pn q0) := by
  unfold k_Mo_add_142
  refine po_g (fun _ => ?_)
  refine po_n (fun q19 e_q19 => ?_)
  have h_q19 : z_pn q19 = z_pn q0 := by rw [e_q19]; exact hq
  exact d_k_Mo_add_143 q0 ih21 x1 x3 x6 x7 x8 x10 x11 x12 q19 h_ih21 h_q19
set_option maxHeartbeats 4000000 in
set_option maxRecDepth 100000 in
theorem m_k_Mo_add_120 (q0 : z_Sg) (ih21 : Int64 × Int64 × Int32 × Int32 × Int64 × Int32 × Int32 × Int32 × z_Sg → Option (Int64 × z_Sg)) (x1 : Int64) (x3 : Int64) (x6 : Int32) (x7 : Int32) (x8 : Int64) (x10 : Int32) (x11 : Int32) (x12 : Int32) (q : z_Sg) (h_ih21 : ∀ a : Int64 × Int64 × Int32 × Int32 × Int64 × Int32 × Int32 × Int32 × z_Sg, z_pk a.2.2.2.2.2.2.2.2 = z_pk q0 → z_po (ih21 a) (fun o : (Int64 × z_Sg) => z_pk o.2 = z_pk q0)) (hq : z_pk q = z_pk q0) : z_po (k_Mo_add_120 ih21 x1 x3 x6 x7 x8 x10 x11 x12 q) (fun o : (Int64 × z_Sg) => z_pk o.2 = z_pk q0) := by
  unfold k_Mo_add_120
  refine po_i (fun _ => ?_) (fun _ => ?_)
  ·
    refine po_i (fun _ => ?_) (fun _ => ?_)
    ·
      exact m_k_Mo_add_142 q0 ih21 x1 x3 x6 x7 x8 x10 x11 x12 (2 : Int32) (1 : Int32) q h_ih21 hq
    ·
      exact m_k_Mo_add_142 q0 ih21 x1 x3 x6 x7 x8 x10 x11 x12 (2 : Int32) (0 : Int32) q h_ih21 hq
  ·
    exact m_k_Mo_add_143 q0 ih21 x1 x3 x6 x7 x8 x10 x11 x12 q h_ih21 hq
set_option maxHeartbeats 4000000 in
set_option maxRecDepth 100000 in
theorem d_k_Mo_add_120 (q0 : z_Sg) (ih21 : Int64 × Int64 × Int32 × Int32 × Int64 × Int32 × Int32 × Int32 × z_Sg → Option (Int64 × z_Sg)) (x1 : Int64) (x3 : Int64) (x6 : Int32) (x7 : Int32) (x8 : Int64) (x10 : Int32) (x11 : Int32) (x12 : Int32) (q : z_Sg) (h_ih21 : ∀ a : Int64 × Int64 × Int32 × Int32 × Int64 × Int32 × Int32 × Int32 × z_Sg, z_pn a.2.2.2.2.2.2.2.2 = z_pn q0 → z_po (ih21 a) (fun o : (Int64 × z_Sg) => z_pn o.2 = z_pn q0)) (hq : z_pn q = z_pn q0) : z_po (k_Mo_add_120 ih21 x1 x3 x6 x7 x8 x10 x11 x12 q) (fun o : (Int64 × z_Sg) => z_pn o.2 = z_pn q0) := by
  unfold k_Mo_add_120
  refine po_i (fun _ => ?_) (fun _ => ?_)
  ·
    refine po_i (fun _ => ?_) (fun _ => ?_)
    ·
      exact d_k_Mo_add_142 q0 ih21 x1 x3 x6 x7 x8 x10 x11 x12 (2 : Int32) (1 : Int32) q h_ih21 hq
    ·
      exact d_k_Mo_add_142 q0 ih21 x1 x3 x6 x7 x8 x10 x11 x12 (2 : Int32) (0 : Int32) q h_ih21 hq
  ·
    exact d_k_Mo_add_143 q0 ih21 x1 x3 x6 x7 x8 x10 x11 x12 q h_ih21 hq
set_option maxHeartbeats 4000000 in
set_option maxRecDepth 100000 in
theorem m_k_Mo_add_101 (q0 : z_Sg) (ih21 : Int64 × Int64 × Int32 × Int32 × Int64 × Int32 × Int32 × Int32 × z_Sg → Option (Int64 × z_Sg)) (x1 : Int64) (x3 : Int64) (x6 : Int32) (x7 : Int32) (x8 : Int64) (x11 : Int32) (x12 : Int32) (x15 : Int32) (t0 : Int32) (q : z_Sg) (h_ih21 : ∀ a : Int64 × Int64 × Int32 × Int32 × Int64 × Int32 × Int32 × Int32 × z_Sg, z_pk a.2.2.2.2.2.2.2.2 = z_pk q0 → z_po (ih21 a) (fun o : (Int64 × z_Sg) => z_pk o.2 = z_pk q0)) (hq : z_pk q = z_pk q0) : z_po (k_Mo_add_101 ih21 x1 x3 x6 x7 x8 x11 x12 x15 t0 q) (fun o : (Int64 × z_Sg) => z_pk o.2 = z_pk q0) := by
  unfold k_Mo_add_101
  refine po_i (fun _ => ?_) (fun _ => ?_)
  ·
    refine po_n (fun n20 _ => ?_)
    exact m_k_Mo_add_120 q0 ih21 x1 x3 x6 x7 n20 t0 x11 x12 q h_ih21 hq
  ·
    exact m_k_Mo_add_120 q0 ih21 x1 x3 x6 x7 x8 t0 x11 x12 q h_ih21 hq
set_option maxHeartbeats 4000000 in
set_option maxRecDepth 100000 in
theorem d_k_Mo_add_101 (q0 : z_Sg) (ih21 : Int64 × Int64 × Int32 × Int32 × Int64 × Int32 × Int32 × Int32 × z_Sg → Option (Int64 × z_Sg)) (x1 : Int64) (x3 : Int64) (x6 : Int32) (x7 : Int32) (x8 : Int64) (x11 : Int32) (x12 : Int32) (x15 : Int32) (t0 : Int32) (q : z_Sg) (h_ih21 : ∀ a : Int64 × Int64 × Int32 × Int32 × Int64 × Int32 × Int32 × Int32 × z_Sg, z_pn a.2.2.2.2.2.2.2.2 = z_pn q0 → z_po (ih21 a) (fun o : (Int64 × z_Sg) => z_pn o.2 = z_pn q0)) (hq : z_pn q = z_pn q0) : z_po (k_Mo_add_101 ih21 x1 x3 x6 x7 x8 x11 x12 x15 t0 q) (fun o : (Int64 × z_Sg) => z_pn o.2 = z_pn q0) := by
  unfold k_Mo_add_101
  refine po_i (fun _ => ?_) (fun _ => ?_)
  ·
    refine po_n (fun n20 _ => ?_)
    exact d_k_Mo_add_120 q0 ih21 x1 x3 x6 x7 n20 t0 x11 x12 q h_ih21 hq
  ·
    exact d_k_Mo_add_120 q0 ih21 x1 x3 x6 x7 x8 t0 x11 x12 q h_ih21 hq
set_option maxHeartbeats 4000000 in
set_option maxRecDepth 100000 in
theorem m_k_Mo_add_77 (q0 : z_Sg) (ih21 : Int64 × Int64 × Int32 × Int32 × Int64 × Int32 × Int32 × Int32 × z_Sg → Option (Int64 × z_Sg)) (x1 : Int64) (x3 : Int64) (x6 : Int32) (x7 : Int32) (x8 : Int64) (x11 : Int32) (x12 : Int32) (t0 : Int32) (q : z_Sg) (h_ih21 : ∀ a : Int64 × Int64 × Int32 × Int32 × Int64 × Int32 × Int32 × Int32 × z_Sg, z_pk a.2.2.2.2.2.2.2.2 = z_pk q0 → z_po (ih21 a) (fun o : (Int64 × z_Sg) => z_pk o.2 = z_pk q0)) (hq : z_pk q = z_pk q0) : z_po (k_Mo_add_77 ih21 x1 x3 x6 x7 x8 x11 x12 t0 q) (fun o : (Int64 × z_Sg) => z_pk o.2 = z_pk q0) := by
  unfold k_Mo_add_77
  refine po_i (fun _ => ?_) (fun _ => ?_)
  ·
    exact m_k_Mo_add_101 q0 ih21 x1 x3 x6 x7 x8 x11 x12 t0 (t0 / (2 : Int32)) q h_ih21 hq
  ·
    refine po_i (fun _ => ?_) (fun _ => ?_)
    ·
      exact m_k_Mo_add_101 q0 ih21 x1 x3 x6 x7 x8 x11 x12 t0 (0 : Int32) q h_ih21 hq
    ·
      exact m_k_Mo_add_101 q0 ih21 x1 x3 x6 x7 x8 x11 x12 t0 (1 : Int32) q h_ih21 hq
set_option maxHeartbeats 4000000 in
set_option maxRecDepth 100000 in
theorem d_k_Mo_add_77 (q0 : z_Sg) (ih21 : Int64 × Int64 × Int32 × Int32 × Int64 × Int32 × Int32 × Int32 × z_Sg → Option (Int64 × z_Sg)) (x1 : Int64) (x3 : Int64) (x6 : Int32) (x7 : Int32) (x8 : Int64) (x11 : Int32) (x12 : Int32) (t0 : Int32) (q : z_Sg) (h_ih21 : ∀ a : Int64 × Int64 × Int32 × Int32 × Int64 × Int32 × Int32 × Int32 × z_Sg, z_pn a.2.2.2.2.2.2.2.2 = z_pn q0 → z_po (ih21 a) (fun o : (Int64 × z_Sg) => z_pn o.2 = z_pn q0)) (hq : z_pn q = z_pn q0) : z_po (k_Mo_add_77 ih21 x1 x3 x6 x7 x8 x11 x12 t0 q) (fun o : (Int64 × z_Sg) => z_pn o.2 = z_pn q0) := by
  unfold k_Mo_add_77
  refine po_i (fun _ => ?_) (fun _ => ?_)
  ·
    exact d_k_Mo_add_101 q0 ih21 x1 x3 x6 x7 x8 x11 x12 t0 (t0 / (2 : Int32)) q h_ih21 hq
  ·
    refine po_i (fun _ => ?_) (fun _ => ?_)
    ·
      exact d_k_Mo_add_101 q0 ih21 x1 x3 x6 x7 x8 x11 x12 t0 (0 : Int32) q h_ih21 hq
    ·
      exact d_k_Mo_add_101 q0 ih21 x1 x3 x6 x7 x8 x11 x12 t0 (1 : Int32) q h_ih21 hq
set_option maxHeartbeats 4000000 in
set_option maxRecDepth 100000 in
theorem m_kb_Mo_add_21 (q0 : z_Sg) (ih21 : Int64 × Int64 × Int32 × Int32 × Int64 × Int32 × Int32 × Int32 × z_Sg → Option (Int64 × z_Sg)) (x1 : Int64) (x3 : Int64) (x6 : Int32) (x7 : Int32) (x8 : Int64) (x10 : Int32) (x11 : Int32) (x12 : Int32) (q : z_Sg) (h_ih21 : ∀ a : Int64 × Int64 × Int32 × Int32 × Int64 × Int32 × Int32 × Int32 × z_Sg, z_pk a.2.2.2.2.2.2.2.2 = z_pk q0 → z_po (ih21 a) (fun o : (Int64 × z_Sg) => z_pk o.2 = z_pk q0)) (hq : z_pk q = z_pk q0) : z_po (kb_Mo_add_21 ih21 x1 x3 x6 x7 x8 x10 x11 x12 q) (fun o : (Int64 × z_Sg) => z_pk o.2 = z_pk q0) := by
  unfold kb_Mo_add_21
  refine po_i (fun _ => ?_) (fun _ => ?_)
  ·
    refine po_i (fun _ => ?_) (fun _ => ?_)
    ·
      exact m_k_Mo_add_165 q0 x7 x8 x10 x11 (0 : Int32) (1 : Int32) q hq
    ·
      exact m_k_Mo_add_165 q0 x7 x8 x10 x11 (0 : Int32) (0 : Int32) q hq
  ·
    refine po_n (fun n10 _ => ?_)
    refine po_n (fun n11 _ => ?_)
    refine po_i (fun _ => ?_) (fun _ => ?_)
    ·
      exact m_k_Mo_add_77 q0 ih21 x1 x3 x6 x7 x8 x10 x12 ((n10 + n11) + x10) q h_ih21 hq
    ·
      exact m_k_Mo_add_77 q0 ih21 x1 x3 x6 x7 x8 x10 x12 ((n10 - n11) - x10) q h_ih21 hq
set_option maxHeartbeats 4000000 in
set_option maxRecDepth 100000 in
theorem d_kb_Mo_add_21 (q0 : z_Sg) (ih21 : Int64 × Int64 × Int32 × Int32 × Int64 × Int32 × Int32 × Int32 × z_Sg → Option (Int64 × z_Sg)) (x1 : Int64) (x3 : Int64) (x6 : Int32) (x7 : Int32) (x8 : Int64) (x10 : Int32) (x11 : Int32) (x12 : Int32) (q : z_Sg) (h_ih21 : ∀ a : Int64 × Int64 × Int32 × Int32 × Int64 × Int32 × Int32 × Int32 × z_Sg, z_pn a.2.2.2.2.2.2.2.2 = z_pn q0 → z_po (ih21 a) (fun o : (Int64 × z_Sg) => z_pn o.2 = z_pn q0)) (hq : z_pn q = z_pn q0) : z_po (kb_Mo_add_21 ih21 x1 x3 x6 x7 x8 x10 x11 x12 q) (fun o : (Int64 × z_Sg) => z_pn o.2 = z_pn q0) := by
  unfold kb_Mo_add_21
  refine po_i (fun _ => ?_) (fun _ => ?_)
  ·
    refine po_i (fun _ => ?_) (fun _ => ?_)
    ·
      exact d_k_Mo_add_165 q0 x7 x8 x10 x11 (0 : Int32) (1 : Int32) q hq
    ·
      exact d_k_Mo_add_165 q0 x7 x8 x10 x11 (0 : Int32) (0 : Int32) q hq
  ·
    refine po_n (fun n10 _ => ?_)
    refine po_n (fun n11 _ => ?_)
    refine po_i (fun _ => ?_) (fun _ => ?_)
    ·
      exact d_k_Mo_add_77 q0 ih21 x1 x3 x6 x7 x8 x10 x12 ((n10 + n11) + x10) q h_ih21 hq
    ·
      exact d_k_Mo_add_77 q0 ih21 x1 x3 x6 x7 x8 x10 x12 ((n10 - n11) - x10) q h_ih21 hq
set_option maxHeartbeats 4000000 in
set_option maxRecDepth 100000 in
theorem m_k_Mo_add_21 (q0 : z_Sg) (x1 : Int64) (x3 : Int64) (x6 : Int32) (x7 : Int32) (x8 : Int64) (x10 : Int32) (x11 : Int32) (x12 : Int32) (q : z_Sg) (hq : z_pk q = z_pk q0) : z_po (k_Mo_add_21 x1 x3 x6 x7 x8 x10 x11 x12 q) (fun o : (Int64 × z_Sg) => z_pk o.2 = z_pk q0) := by
  unfold k_Mo_add_21
  exact po_l (fun a : Int64 × Int64 × Int32 × Int32 × Int64 × Int32 × Int32 × Int32 × z_Sg => z_pk a.2.2.2.2.2.2.2.2 = z_pk q0) (fun ih21 a ha hih => m_kb_Mo_add_21 q0 ih21 a.1 a.2.1 a.2.2.1 a.2.2.2.1 a.2.2.2.2.1 a.2.2.2.2.2.1 a.2.2.2.2.2.2.1 a.2.2.2.2.2.2.2.1 a.2.2.2.2.2.2.2.2  hih ha) _ _ hq
set_option maxHeartbeats 4000000 in
set_option maxRecDepth 100000 in
theorem d_k_Mo_add_21 (q0 : z_Sg) (x1 : Int64) (x3 : Int64) (x6 : Int32) (x7 : Int32) (x8 : Int64) (x10 : Int32) (x11 : Int32) (x12 : Int32) (q : z_Sg) (hq : z_pn q = z_pn q0) : z_po (k_Mo_add_21 x1 x3 x6 x7 x8 x10 x11 x12 q) (fun o : (Int64 × z_Sg) => z_pn o.2 = z_pn q0) := by
  unfold k_Mo_add_21
  exact po_l (fun a : Int64 × Int64 × Int32 × Int32 × Int64 × Int32 × Int32 × Int32 × z_Sg => z_pn a.2.2.2.2.2.2.2.2 = z_pn q0) (fun ih21 a ha hih => d_kb_Mo_add_21 q0 ih21 a.1 a.2.1 a.2.2.1 a.2.2.2.1 a.2.2.2.2.1 a.2.2.2.2.2.1 a.2.2.2.2.2.2.1 a.2.2.2.2.2.2.2.1 a.2.2.2.2.2.2.2.2  hih ha) _ _ hq
set_option maxHeartbeats 4000000 in
set_option maxRecDepth 100000 in
theorem m_k_Mo_add_13 (q0 : z_Sg) (x1 : Int64) (x3 : Int64) (x6 : Int32) (x7 : Int32) (x8 : Int64) (t0 : Int32) (q : z_Sg) (hq : z_pk q = z_pk q0) : z_po (k_Mo_add_13 x1 x3 x6 x7 x8 t0 q) (fun o : (Int64 × z_Sg) => z_pk o.2 = z_pk q0) := by
  unfold k_Mo_add_13
  exact m_k_Mo_add_21 q0 x1 x3 x6 x7 x8 t0 (0 : Int32) (0 : Int32) q hq
set_option maxHeartbeats 4000000 in
set_option maxRecDepth 100000 in
theorem d_k_Mo_add_13 (q0 : z_Sg) (x1 : Int64) (x3 : Int64) (x6 : Int32) (x7 : Int32) (x8 : Int64) (t0 : Int32) (q : z_Sg) (hq : z_pn q = z_pn q0) : z_po (k_Mo_add_13 x1 x3 x6 x7 x8 t0 q) (fun o : (Int64 × z_Sg) => z_pn o.2 = z_pn q0) := by
  unfold k_Mo_add_13
  exact d_k_Mo_add_21 q0 x1 x3 x6 x7 x8 t0 (0 : Int32) (0 : Int32) q hq
set_option maxHeartbeats 4000000 in
set_option maxRecDepth 100000 in
theorem m_f_Mo_add (q0 : z_Sg) (x1 : Int64) (x3 : Int64) (x5 : Int32) (x6 : Int32) (x7 : Int32) (q : z_Sg) (hq : z_pk q = z_pk q0) : z_po (f_Mo_add x1 x3 x5 x6 x7 q) (fun o : (Int64 × z_Sg) => z_pk o.2 = z_pk q0) := by
  unfold f_Mo_add
  refine po_i (fun _ => ?_) (fun _ => ?_)
  ·
    exact m_k_Mo_add_13 q0 x1 x3 x6 x7 (0 : Int64) (0 : Int32) q hq
  ·
    exact m_k_Mo_add_13 q0 x1 x3 x6 x7 (0 : Int64) (1 : Int32) q hq
set_option maxHeartbeats 4000000 in
set_option maxRecDepth 100000 in
theorem d_f_Mo_add (q0 : z_Sg) (x1 : Int64) (x3 : Int64) (x5 : Int32) (x6 : Int32) (x7 : Int32) (q : z_Sg) (hq : z_pn q = z_pn q0) : z_po (f_Mo_add x1 x3 x5 x6 x7 q) (fun o : (Int64 × z_Sg) => z_pn o.2 = z_pn q0) := by
  unfold f_Mo_add
  refine po_i (fun _ => ?_) (fun _ => ?_)
  ·
    exact d_k_Mo_add_13 q0 x1 x3 x6 x7 (0 : Int64) (0 : Int32) q hq
  ·
    exact d_k_Mo_add_13 q0 x1 x3 x6 x7 (0 : Int64) (1 : Int32) q hq
set_option maxHeartbeats 4000000 in
set_option maxRecDepth 100000 in
theorem m_f_Mo_leave (q0 : z_Sg) (x1 : Int32) (q : z_Sg) (hq : z_pk q = z_pk q0) : z_po (f_Mo_leave x1 q) (fun o : z_Sg => z_pk o = z_pk q0) := by
  unfold f_Mo_leave
  refine po_b (R := fun _ => True) (fun _ _ => trivial) (fun r1 _ => ?_)
  refine po_g (fun _ => ?_)
  refine po_n (fun q3 e_q3 => ?_)
  have h_q3 : z_pk q3 = z_pk q0 := by rw [e_q3]; exact hq
  exact po_s h_q3
set_option maxHeartbeats 4000000 in
set_option maxRecDepth 100000 in
theorem d_f_Mo_leave (q0 : z_Sg) (x1 : Int32) (q : z_Sg) (hq : z_pn q = z_pn q0) : z_po (f_Mo_leave x1 q) (fun o : z_Sg => z_pn o = z_pn q0) := by
  unfold f_Mo_leave
  refine po_b (R := fun _ => True) (fun _ _ => trivial) (fun r1 _ => ?_)
  refine po_g (fun _ => ?_)
  refine po_n (fun q3 e_q3 => ?_)
  have h_q3 : z_pn q3 = z_pn q0 := by rw [e_q3]; exact hq
  exact po_s h_q3
set_option maxHeartbeats 4000000 in
set_option maxRecDepth 100000 in
theorem m_f_Mo_logic (q0 : z_Sg) (x1 : Int64) (x3 : Int32) (q : z_Sg) (hq : z_pk q = z_pk q0) : z_po (f_Mo_logic x1 x3 q) (fun o : (Int64 × z_Sg) => z_pk o.2 = z_pk q0) := by
  unfold f_Mo_logic
  refine po_g (fun _ => ?_)
  refine po_n (fun q2 e_q2 => ?_)
  have h_q2 : z_pk q2 = z_pk q0 := by rw [e_q2]; exact hq
  refine po_g (fun _ => ?_)
  refine po_n (fun q4 e_q4 => ?_)
  have h_q4 : z_pk q4 = z_pk q0 := by rw [e_q4]; exact h_q2
  refine po_b (m_f_Mo_leave q0 (2 : Int32) q4 h_q4) (fun r5 h_r5 => ?_)
  refine po_b (m_f_Mo_result q0 x1 x3 r5 h_r5) (fun r6 h_r6 => ?_)
  exact po_s h_r6
set_option maxHeartbeats 4000000 in
set_option maxRecDepth 100000 in
theorem d_f_Mo_logic (q0 : z_Sg) (x1 : Int64) (x3 : Int32) (q : z_Sg) (hq : z_pn q = z_pn q0) : z_po (f_Mo_logic x1 x3 q) (fun o : (Int64 × z_Sg) => z_pn o.2 = z_pn q0) := by
  unfold f_Mo_logic
  refine po_g (fun _ => ?_)
  refine po_n (fun q2 e_q2 => ?_)
  have h_q2 : z_pn q2 = z_pn q0 := by rw [e_q2]; exact hq
  refine po_g (fun _ => ?_)
  refine po_n (fun q4 e_q4 => ?_)
  have h_q4 : z_pn q4 = z_pn q0 := by rw [e_q4]; exact h_q2
  refine po_b (d_f_Mo_leave q0 (2 : Int32) q4 h_q4) (fun r5 h_r5 => ?_)
  refine po_b (d_f_Mo_result q0 x1 x3 r5 h_r5) (fun r6 h_r6 => ?_)
  exact po_s h_r6
set_option maxHeartbeats 4000000 in
set_option maxRecDepth 100000 in
theorem m_k_Mo_reckon_100 (q0 : z_Sg) (x6 : Int32) (x7 : Int32) (t1 : Int64) (t2 : Int64) (t3 : Int32) (q : z_Sg) (hq : z_pk q = z_pk q0) : z_po (k_Mo_reckon_100 x6 x7 t1 t2 t3 q) (fun o : (Int64 × z_Sg) => z_pk o.2 = z_pk q0) := by
  unfold k_Mo_reckon_100
  refine po_b (m_f_Mo_add q0 t1 t2 t3 x7 x6 q hq) (fun r8 h_r8 => ?_)
  exact po_s h_r8
set_option maxHeartbeats 4000000 in
set_option maxRecDepth 100000 in
theorem d_k_Mo_reckon_100 (q0 : z_Sg) (x6 : Int32) (x7 : Int32) (t1 : Int64) (t2 : Int64) (t3 : Int32) (q : z_Sg) (hq : z_pn q = z_pn q0) : z_po (k_Mo_reckon_100 x6 x7 t1 t2 t3 q) (fun o : (Int64 × z_Sg) => z_pn o.2 = z_pn q0) := by
  unfold k_Mo_reckon_100
  refine po_b (d_f_Mo_add q0 t1 t2 t3 x7 x6 q hq) (fun r8 h_r8 => ?_)
  exact po_s h_r8
set_option maxHeartbeats 4000000 in
set_option maxRecDepth 100000 in
theorem m_k_Mo_reckon_99 (q0 : z_Sg) (x6 : Int32) (x7 : Int32) (t1 : Int64) (t2 : Int64) (q : z_Sg) (hq : z_pk q = z_pk q0) : z_po (k_Mo_reckon_99 x6 x7 t1 t2 q) (fun o : (Int64 × z_Sg) => z_pk o.2 = z_pk q0) := by
  unfold k_Mo_reckon_99
  exact m_k_Mo_reckon_100 q0 x6 x7 t1 t2 (0 : Int32) q hq
set_option maxHeartbeats 4000000 in
set_option maxRecDepth 100000 in
theorem d_k_Mo_reckon_99 (q0 : z_Sg) (x6 : Int32) (x7 : Int32) (t1 : Int64) (t2 : Int64) (q : z_Sg) (hq : z_pn q = z_pn q0) : z_po (k_Mo_reckon_99 x6 x7 t1 t2 q) (fun o : (Int64 × z_Sg) => z_pn o.2 = z_pn q0) := by
  unfold k_Mo_reckon_99
  exact d_k_Mo_reckon_100 q0 x6 x7 t1 t2 (0 : Int32) q hq
set_option maxHeartbeats 4000000 in
set_option maxRecDepth 100000 in
theorem m_k_Mo_reckon_86 (q0 : z_Sg) (x6 : Int32) (x7 : Int32) (t1 : Int64) (t2 : Int64) (q : z_Sg) (hq : z_pk q = z_pk q0) : z_po (k_Mo_reckon_86 x6 x7 t1 t2 q) (fun o : (Int64 × z_Sg) => z_pk o.2 = z_pk q0) := by
  unfold k_Mo_reckon_86
  refine po_g (fun _ => ?_)
  refine po_i (fun _ => ?_) (fun _ => ?_)
  ·
    exact m_k_Mo_reckon_99 q0 x6 x7 t1 t2 q hq
  ·
    exact m_k_Mo_reckon_100 q0 x6 x7 t1 t2 (1 : Int32) q hq
set_option maxHeartbeats 4000000 in
set_option maxRecDepth 100000 in
theorem d_k_Mo_reckon_86 (q0 : z_Sg) (x6 : Int32) (x7 : Int32) (t1 : Int64) (t2 : Int64) (q : z_Sg) (hq : z_pn q = z_pn q0) : z_po (k_Mo_reckon_86 x6 x7 t1 t2 q) (fun o : (Int64 × z_Sg) => z_pn o.2 = z_pn q0) := by
  unfold k_Mo_reckon_86
  refine po_g (fun _ => ?_)
  refine po_i (fun _ => ?_) (fun _ => ?_)
  ·
    exact d_k_Mo_reckon_99 q0 x6 x7 t1 t2 q hq
  ·
    exact d_k_Mo_reckon_100 q0 x6 x7 t1 t2 (1 : Int32) q hq
set_option maxHeartbeats 4000000 in
set_option maxRecDepth 100000 in
theorem m_k_Mo_reckon_70 (q0 : z_Sg) (x1 : Int32) (x2 : Int64) (x4 : Int64) (x6 : Int32) (t0 : Int32) (q : z_Sg) (hq : z_pk q = z_pk q0) : z_po (k_Mo_reckon_70 x1 x2 x4 x6 t0 q) (fun o : (Int64 × z_Sg) => z_pk o.2 = z_pk q0) := by
  unfold k_Mo_reckon_70
  refine po_i (fun _ => ?_) (fun _ => ?_)
  ·
    exact m_k_Mo_reckon_86 q0 x6 t0 x2 x4 q hq
  ·
    refine po_i (fun _ => ?_) (fun _ => ?_)
    ·
      exact m_k_Mo_reckon_86 q0 x6 t0 x2 x4 q hq
    ·
      exact m_k_Mo_reckon_99 q0 x6 t0 x2 x4 q hq
set_option maxHeartbeats 4000000 in
set_option maxRecDepth 100000 in
theorem d_k_Mo_reckon_70 (q0 : z_Sg) (x1 : Int32) (x2 : Int64) (x4 : Int64) (x6 : Int32) (t0 : Int32) (q : z_Sg) (hq : z_pn q = z_pn q0) : z_po (k_Mo_reckon_70 x1 x2 x4 x6 t0 q) (fun o : (Int64 × z_Sg) => z_pn o.2 = z_pn q0) := by
  unfold k_Mo_reckon_70
  refine po_i (fun _ => ?_) (fun _ => ?_)
  ·
    exact d_k_Mo_reckon_86 q0 x6 t0 x2 x4 q hq
  ·
    refine po_i (fun _ => ?_) (fun _ => ?_)
    ·
      exact d_k_Mo_reckon_86 q0 x6 t0 x2 x4 q hq
    ·
      exact d_k_Mo_reckon_99 q0 x6 t0 x2 x4 q hq
set_option maxHeartbeats 4000000 in
set_option maxRecDepth 100000 in
theorem m_k_Mo_reckon_65 (q0 : z_Sg) (x1 : Int32) (x2 : Int64) (x4 : Int64) (x6 : Int32) (q : z_Sg) (hq : z_pk q = z_pk q0) : z_po (k_Mo_reckon_65 x1 x2 x4 x6 q) (fun o : (Int64 × z_Sg) => z_pk o.2 = z_pk q0) := by
  unfold k_Mo_reckon_65
  exact m_k_Mo_reckon_70 q0 x1 x2 x4 x6 (1 : Int32) q hq
set_option maxHeartbeats 4000000 in
set_option maxRecDepth 100000 in
theorem d_k_Mo_reckon_65 (q0 : z_Sg) (x1 : Int32) (x2 : Int64) (x4 : Int64) (x6 : Int32) (q : z_Sg) (hq : z_pn q = z_pn q0) : z_po (k_Mo_reckon_65 x1 x2 x4 x6 q) (fun o : (Int64 × z_Sg) => z_pn o.2 = z_pn q0) := by
  unfold k_Mo_reckon_65
  exact d_k_Mo_reckon_70 q0 x1 x2 x4 x6 (1 : Int32) q hq
set_option maxHeartbeats 4000000 in
set_option maxRecDepth 100000 in
theorem m_f_Mo_reckon (q0 : z_Sg) (x1 : Int32) (x2 : Int64) (x4 : Int64) (x6 : Int32) (q : z_Sg) (hq : z_pk q = z_pk q0) : z_po (f_Mo_reckon x1 x2 x4 x6 q) (fun o : (Int64 × z_Sg) => z_pk o.2 = z_pk q0) := by
  unfold f_Mo_reckon
  refine po_i (fun _ => ?_) (fun _ => ?_)
  ·
    refine po_b (m_f_Mo_logic q0 (x2 ||| x4) x6 q hq) (fun r14 h_r14 => ?_)
    exact po_s h_r14
  ·
    refine po_i (fun _ => ?_) (fun _ => ?_)
    ·
      refine po_b (m_f_Mo_logic q0 (x2 &&& x4) x6 q hq) (fun r13 h_r13 => ?_)
      exact po_s h_r13
    ·
      refine po_i (fun _ => ?_) (fun _ => ?_)
      ·
        refine po_b (m_f_Mo_logic q0 (x2 ^^^ x4) x6 q hq) (fun r12 h_r12 => ?_)
        exact po_s h_r12
      ·
        refine po_i (fun _ => ?_) (fun _ => ?_)
        ·
          exact m_k_Mo_reckon_65 q0 x1 x2 x4 x6 q hq
        ·
          refine po_i (fun _ => ?_) (fun _ => ?_)
          ·
            exact m_k_Mo_reckon_65 q0 x1 x2 x4 x6 q hq
          ·
            refine po_i (fun _ => ?_) (fun _ => ?_)
            ·
              exact m_k_Mo_reckon_65 q0 x1 x2 x4 x6 q hq
            ·
              exact m_k_Mo_reckon_70 q0 x1 x2 x4 x6 (0 : Int32) q hq
set_option maxHeartbeats 4000000 in
set_option maxRecDepth 100000 in
theorem d_f_Mo_reckon (q0 : z_Sg) (x1 : Int32) (x2 : Int64) (x4 : Int64) (x6 : Int32) (q : z_Sg) (hq : z_pn q = z_pn q0) : z_po (f_Mo_reckon x1 x2 x4 x6 q) (fun o : (Int64 × z_Sg) => z_pn o.2 = z_pn q0) := by
  unfold f_Mo_reckon
  refine po_i (fun _ => ?_) (fun _ => ?_)
  ·
    refine po_b (d_f_Mo_logic q0 (x2 ||| x4) x6 q hq) (fun r14 h_r14 => ?_)
    exact po_s h_r14
  ·
    refine po_i (fun _ => ?_) (fun _ => ?_)
    ·
      refine po_b (d_f_Mo_logic q0 (x2 &&& x4) x6 q hq) (fun r13 h_r13 => ?_)
      exact po_s h_r13
    ·
      refine po_i (fun _ => ?_) (fun _ => ?_)
      ·
        refine po_b (d_f_Mo_logic q0 (x2 ^^^ x4) x6 q hq) (fun r12 h_r12 => ?_)
        exact po_s h_r12
      ·
        refine po_i (fun _ => ?_) (fun _ => ?_)
        ·
          exact d_k_Mo_reckon_65 q0 x1 x2 x4 x6 q hq
        ·
          refine po_i (fun _ => ?_) (fun _ => ?_)
          ·
            exact d_k_Mo_reckon_65 q0 x1 x2 x4 x6 q hq
          ·
            refine po_i (fun _ => ?_) (fun _ => ?_)
            ·
              exact d_k_Mo_reckon_65 q0 x1 x2 x4 x6 q hq
            ·
              exact d_k_Mo_reckon_70 q0 x1 x2 x4 x6 (0 : Int32) q hq
set_option maxHeartbeats 4000000 in
set_option maxRecDepth 100000 in
theorem m_k_Mo_hold_70 (q0 : z_Sg) (q : z_Sg) (hq : z_pk q = z_pk q0) : z_po (k_Mo_hold_70 q) (fun o : z_Sg => z_pk o = z_pk q0) := by
  unfold k_Mo_hold_70
  exact po_s hq
set_option maxHeartbeats 4000000 in
set_option maxRecDepth 100000 in
theorem d_k_Mo_hold_70 (q0 : z_Sg) (q : z_Sg) (hq : z_pn q = z_pn q0) : z_po (k_Mo_hold_70 q) (fun o : z_Sg => z_pn o = z_pn q0) := by
  unfold k_Mo_hold_70
  exact po_s hq
set_option maxHeartbeats 4000000 in
set_option maxRecDepth 100000 in
theorem m_kb_Mo_hold_3 (q0 : z_Sg) (ih3 : Int64 × Int32 × Int32 × z_Sg → Option z_Sg) (x1 : Int64) (x3 : Int32) (x4 : Int32) (q : z_Sg) (h_ih3 : ∀ a : Int64 × Int32 × Int32 × z_Sg, z_pk a.2.2.2 = z_pk q0 → z_po (ih3 a) (fun o : z_Sg => z_pk o = z_pk q0)) (hq : z_pk q = z_pk q0) : z_po (kb_Mo_hold_3 ih3 x1 x3 x4 q) (fun o : z_Sg => z_pk o = z_pk q0) := by
  unfold kb_Mo_hold_3
  refine po_i (fun _ => ?_) (fun _ => ?_)
  ·
    exact m_k_Mo_hold_70 q0 q hq
  ·
    refine po_i (fun _ => ?_) (fun _ => ?_)
    ·
      refine po_g (fun _ => ?_)
      refine po_g (fun _ => ?_)
      refine po_n (fun q5 e_q5 => ?_)
      have h_q5 : z_pk q5 = z_pk q0 := by rw [e_q5]; exact hq
      refine po_g (fun _ => ?_)
      refine po_n (fun q7 e_q7 => ?_)
      have h_q7 : z_pk q7 = z_pk q0 := by rw [e_q7]; exact h_q5
      refine po_n (fun q8 e_q8 => ?_)
      have h_q8 : z_pk q8 = z_pk q0 := by rw [e_q8]; exact h_q7
      refine po_n (fun n9 _ => ?_)
      exact h_ih3 _ h_q8
    ·
      exact m_k_Mo_hold_70 q0 q hq
set_option maxHeartbeats 4000000 in
set_option maxRecDepth 100000 in
theorem d_kb_Mo_hold_3 (q0 : z_Sg) (ih3 : Int64 × Int32 × Int32 × z_Sg → Option z_Sg) (x1 : Int64) (x3 : Int32) (x4 : Int32) (q : z_Sg) (h_ih3 : ∀ a : Int64 × Int32 × Int32 × z_Sg, z_pn a.2.2.2 = z_pn q0 → z_po (ih3 a) (fun o : z_Sg => z_pn o = z_pn q0)) (hq : z_pn q = z_pn q0) : z_po (kb_Mo_hold_3 ih3 x1 x3 x4 q) (fun o : z_Sg => z_pn o = z_pn q0) := by
  unfold kb_Mo_hold_3
  refine po_i (fun _ => ?_) (fun _ => ?_)
  ·
    exact d_k_Mo_hold_70 q0 q hq
  ·
    refine po_i (fun _ => ?_) (fun _ => ?_)
    ·
      refine po_g (fun _ => ?_)
      refine po_g (fun _ => ?_)
      refine po_n (fun q5 e_q5 => ?_)
      have h_q5 : z_pn q5 = z_pn q0 := by rw [e_q5]; exact hq
      refine po_g (fun _ => ?_)
      refine po_n (fun q7 e_q7 => ?_)
      have h_q7 : z_pn q7 = z_pn q0 := by rw [e_q7]; exact h_q5
      refine po_n (fun q8 e_q8 => ?_)
      have h_q8 : z_pn q8 = z_pn q0 := by rw [e_q8]; exact h_q7
      refine po_n (fun n9 _ => ?_)
      exact h_ih3 _ h_q8
    ·
      exact d_k_Mo_hold_70 q0 q hq
set_option maxHeartbeats 4000000 in
set_option maxRecDepth 100000 in
theorem m_k_Mo_hold_3 (q0 : z_Sg) (x1 : Int64) (x3 : Int32) (x4 : Int32) (q : z_Sg) (hq : z_pk q = z_pk q0) : z_po (k_Mo_hold_3 x1 x3 x4 q) (fun o : z_Sg => z_pk o = z_pk q0) := by
  unfold k_Mo_hold_3
  exact po_l (fun a : Int64 × Int32 × Int32 × z_Sg => z_pk a.2.2.2 = z_pk q0) (fun ih3 a ha hih => m_kb_Mo_hold_3 q0 ih3 a.1 a.2.1 a.2.2.1 a.2.2.2  hih ha) _ _ hq
set_option maxHeartbeats 4000000 in
set_option maxRecDepth 100000 in
theorem d_k_Mo_hold_3 (q0 : z_Sg) (x1 : Int64) (x3 : Int32) (x4 : Int32) (q : z_Sg) (hq : z_pn q = z_pn q0) : z_po (k_Mo_hold_3 x1 x3 x4 q) (fun o : z_Sg => z_pn o = z_pn q0) := by
  unfold k_Mo_hold_3
  exact po_l (fun a : Int64 × Int32 × Int32 × z_Sg => z_pn a.2.2.2 = z_pn q0) (fun ih3 a ha hih => d_kb_Mo_hold_3 q0 ih3 a.1 a.2.1 a.2.2.1 a.2.2.2  hih ha) _ _ hq
set_option maxHeartbeats 4000000 in
set_option maxRecDepth 100000 in
theorem m_f_Mo_hold (q0 : z_Sg) (x1 : Int64) (x3 : Int32) (q : z_Sg) (hq : z_pk q = z_pk q0) : z_po (f_Mo_hold x1 x3 q) (fun o : z_Sg => z_pk o = z_pk q0) := by
  unfold f_Mo_hold
  exact m_k_Mo_hold_3 q0 x1 x3 (0 : Int32) q hq
set_option maxHeartbeats 4000000 in
set_option maxRecDepth 100000 in
theorem d_f_Mo_hold (q0 : z_Sg) (x1 : Int64) (x3 : Int32) (q : z_Sg) (hq : z_pn q = z_pn q0) : z_po (f_Mo_hold x1 x3 q) (fun o : z_Sg => z_pn o = z_pn q0) := by
  unfold f_Mo_hold
  exact d_k_Mo_hold_3 q0 x1 x3 (0 : Int32) q hq
set_option maxHeartbeats 4000000 in
set_option maxRecDepth 100000 in
theorem m_k_Mo_put8_99 (q0 : z_Sg) (q : z_Sg) (hq : z_pk q = z_pk q0) : z_po (k_Mo_put8_99 q) (fun o : z_Sg => z_pk o = z_pk q0) := by
  unfold k_Mo_put8_99
  exact po_s hq
set_option maxHeartbeats 4000000 in
set_option maxRecDepth 100000 in
theorem d_k_Mo_put8_99 (q0 : z_Sg) (q : z_Sg) (hq : z_pn q = z_pn q0) : z_po (k_Mo_put8_99 q) (fun o : z_Sg => z_pn o = z_pn q0) := by
  unfold k_Mo_put8_99
  exact po_s hq
set_option maxHeartbeats 4000000 in
set_option maxRecDepth 100000 in
theorem m_f_Mo_put8 (q0 : z_Sg) (x1 : Int32) (x2 : Int32) (x3 : Int64) (q : z_Sg) (hq : z_pk q = z_pk q0) : z_po (f_Mo_put8 x1 x2 x3 q) (fun o : z_Sg => z_pk o = z_pk q0) := by
  unfold f_Mo_put8
  refine po_i (fun _ => ?_) (fun _ => ?_)
  ·
    refine po_b (R := fun _ => True) (fun _ _ => trivial) (fun r2 _ => ?_)
    refine po_i (fun _ => ?_) (fun _ => ?_)
    ·
      refine po_i (fun _ => ?_) (fun _ => ?_)
      ·
        refine po_g (fun _ => ?_)
        refine po_b (R := fun _ => True) (fun _ _ => trivial) (fun r6 _ => ?_)
        refine po_b (R := fun _ => True) (fun _ _ => trivial) (fun r7 _ => ?_)
        refine po_g (fun _ => ?_)
        refine po_n (fun q9 e_q9 => ?_)
        have h_q9 : z_pk q9 = z_pk q0 := by rw [e_q9]; exact hq
        exact m_k_Mo_put8_99 q0 q9 h_q9
      ·
        refine po_b (R := fun _ => True) (fun _ _ => trivial) (fun r10 _ => ?_)
        refine po_g (fun _ => ?_)
        refine po_n (fun q12 e_q12 => ?_)
        have h_q12 : z_pk q12 = z_pk q0 := by rw [e_q12]; exact hq
        exact m_k_Mo_put8_99 q0 q12 h_q12
    ·
      refine po_g (fun _ => ?_)
      refine po_b (R := fun _ => True) (fun _ _ => trivial) (fun r14 _ => ?_)
      refine po_g (fun _ => ?_)
      refine po_n (fun q16 e_q16 => ?_)
      have h_q16 : z_pk q16 = z_pk q0 := by rw [e_q16]; exact hq
      exact m_k_Mo_put8_99 q0 q16 h_q16
  ·
    exact po_s hq
set_option maxHeartbeats 4000000 in
set_option maxRecDepth 100000 in
theorem d_f_Mo_put8 (q0 : z_Sg) (x1 : Int32) (x2 : Int32) (x3 : Int64) (q : z_Sg) (hq : z_pn q = z_pn q0) : z_po (f_Mo_put8 x1 x2 x3 q) (fun o : z_Sg => z_pn o = z_pn q0) := by
  unfold f_Mo_put8
  refine po_i (fun _ => ?_) (fun _ => ?_)
  ·
    refine po_b (R := fun _ => True) (fun _ _ => trivial) (fun r2 _ => ?_)
    refine po_i (fun _ => ?_) (fun _ => ?_)
    ·
      refine po_i (fun _ => ?_) (fun _ => ?_)
      ·
        refine po_g (fun _ => ?_)
        refine po_b (R := fun _ => True) (fun _ _ => trivial) (fun r6 _ => ?_)
        refine po_b (R := fun _ => True) (fun _ _ => trivial) (fun r7 _ => ?_)
        refine po_g (fun _ => ?_)
        refine po_n (fun q9 e_q9 => ?_)
        have h_q9 : z_pn q9 = z_pn q0 := by rw [e_q9]; exact hq
        exact d_k_Mo_put8_99 q0 q9 h_q9
      ·
        refine po_b (R := fun _ => True) (fun _ _ => trivial) (fun r10 _ => ?_)
        refine po_g (fun _ => ?_)
        refine po_n (fun q12 e_q12 => ?_)
        have h_q12 : z_pn q12 = z_pn q0 := by rw [e_q12]; exact hq
        exact d_k_Mo_put8_99 q0 q12 h_q12
    ·
      refine po_g (fun _ => ?_)
      refine po_b (R := fun _ => True) (fun _ _ => trivial) (fun r14 _ => ?_)
      refine po_g (fun _ => ?_)
      refine po_n (fun q16 e_q16 => ?_)
      have h_q16 : z_pn q16 = z_pn q0 := by rw [e_q16]; exact hq
      exact d_k_Mo_put8_99 q0 q16 h_q16
  ·
    exact po_s hq
set_option maxHeartbeats 4000000 in
set_option maxRecDepth 100000 in
theorem m_k_Mo_setE_33 (q0 : z_Sg) (q : z_Sg) (hq : z_pk q = z_pk q0) : z_po (k_Mo_setE_33 q) (fun o : z_Sg => z_pk o = z_pk q0) := by
  unfold k_Mo_setE_33
  exact po_s hq
set_option maxHeartbeats 4000000 in
set_option maxRecDepth 100000 in
theorem d_k_Mo_setE_33 (q0 : z_Sg) (q : z_Sg) (hq : z_pn q = z_pn q0) : z_po (k_Mo_setE_33 q) (fun o : z_Sg => z_pn o = z_pn q0) := by
  unfold k_Mo_setE_33
  exact po_s hq
set_option maxHeartbeats 4000000 in
set_option maxRecDepth 100000 in
theorem m_f_Mo_setE (q0 : z_Sg) (x1 : Int32) (x2 : Int64) (q : z_Sg) (hq : z_pk q = z_pk q0) : z_po (f_Mo_setE x1 x2 q) (fun o : z_Sg => z_pk o = z_pk q0) := by
  unfold f_Mo_setE
  refine po_i (fun _ => ?_) (fun _ => ?_)
  ·
    refine po_b (R := fun _ => True) (fun _ _ => trivial) (fun r3 _ => ?_)
    refine po_b (m_f_Mo_put8 q0 ((z_gI q 9) + r3) x1 x2 q hq) (fun r4 h_r4 => ?_)
    exact m_k_Mo_setE_33 q0 r4 h_r4
  ·
    refine po_b (m_f_Mo_hold q0 x2 x1 q hq) (fun r2 h_r2 => ?_)
    exact m_k_Mo_setE_33 q0 r2 h_r2
set_option maxHeartbeats 4000000 in
set_option maxRecDepth 100000 in
theorem d_f_Mo_setE (q0 : z_Sg) (x1 : Int32) (x2 : Int64) (q : z_Sg) (hq : z_pn q = z_pn q0) : z_po (f_Mo_setE x1 x2 q) (fun o : z_Sg => z_pn o = z_pn q0) := by
  unfold f_Mo_setE
  refine po_i (fun _ => ?_) (fun _ => ?_)
  ·
    refine po_b (R := fun _ => True) (fun _ _ => trivial) (fun r3 _ => ?_)
    refine po_b (d_f_Mo_put8 q0 ((z_gI q 9) + r3) x1 x2 q hq) (fun r4 h_r4 => ?_)
    exact d_k_Mo_setE_33 q0 r4 h_r4
  ·
    refine po_b (d_f_Mo_hold q0 x2 x1 q hq) (fun r2 h_r2 => ?_)
    exact d_k_Mo_setE_33 q0 r2 h_r2
set_option maxHeartbeats 4000000 in
set_option maxRecDepth 100000 in
theorem m_k_Mo_group_75 (q0 : z_Sg) (q : z_Sg) (hq : z_pk q = z_pk q0) : z_po (k_Mo_group_75 q) (fun o : z_Sg => z_pk o = z_pk q0) := by
  unfold k_Mo_group_75
  exact po_s hq
set_option maxHeartbeats 4000000 in
set_option maxRecDepth 100000 in
theorem d_k_Mo_group_75 (q0 : z_Sg) (q : z_Sg) (hq : z_pn q = z_pn q0) : z_po (k_Mo_group_75 q) (fun o : z_Sg => z_pn o = z_pn q0) := by
  unfold k_Mo_group_75
  exact po_s hq
set_option maxHeartbeats 4000000 in
set_option maxRecDepth 100000 in
theorem m_k_Mo_group_49 (q0 : z_Sg) (x2 : Int32) (x3 : Int64) (t1 : Int32) (t3 : Int32) (t4 : Int32) (q : z_Sg) (hq : z_pk q = z_pk q0) : z_po (k_Mo_group_49 x2 x3 t1 t3 t4 q) (fun o : z_Sg => z_pk o = z_pk q0) := by
  unfold k_Mo_group_49
  refine po_b (m_f_Mo_e q0 t3 t4 q hq) (fun r7 h_r7 => ?_)
  refine po_b (m_f_Mo_reckon q0 t1 r7.1 x3 x2 r7.2 h_r7) (fun r8 h_r8 => ?_)
  refine po_i (fun _ => ?_) (fun _ => ?_)
  ·
    exact m_k_Mo_group_75 q0 r8.2 h_r8
  ·
    refine po_b (m_f_Mo_setE q0 x2 r8.1 r8.2 h_r8) (fun r10 h_r10 => ?_)
    exact m_k_Mo_group_75 q0 r10 h_r10
set_option maxHeartbeats 4000000 in
set_option maxRecDepth 100000 in
theorem d_k_Mo_group_49 (q0 : z_Sg) (x2 : Int32) (x3 : Int64) (t1 : Int32) (t3 : Int32) (t4 : Int32) (q : z_Sg) (hq : z_pn q = z_pn q0) (hd : ¬ z_gI q0 4 = -1) : z_po (k_Mo_group_49 x2 x3 t1 t3 t4 q) (fun o : z_Sg => z_pn o = z_pn q0) := by
  unfold k_Mo_group_49
  refine po_b (d_f_Mo_e q0 t3 t4 q hq hd) (fun r7 h_r7 => ?_)
  refine po_b (d_f_Mo_reckon q0 t1 r7.1 x3 x2 r7.2 h_r7) (fun r8 h_r8 => ?_)
  refine po_i (fun _ => ?_) (fun _ => ?_)
  ·
    exact d_k_Mo_group_75 q0 r8.2 h_r8
  ·
    refine po_b (d_f_Mo_setE q0 x2 r8.1 r8.2 h_r8) (fun r10 h_r10 => ?_)
    exact d_k_Mo_group_75 q0 r10 h_r10
set_option maxHeartbeats 4000000 in
set_option maxRecDepth 100000 in
theorem m_k_Mo_group_20 (q0 : z_Sg) (x2 : Int32) (t1 : Int32) (q : z_Sg) (hq : z_pk q = z_pk q0) : z_po (k_Mo_group_20 x2 t1 q) (fun o : z_Sg => z_pk o = z_pk q0) := by
  unfold k_Mo_group_20
  refine po_b (m_f_Mo_number q0 t1 q hq) (fun r4 h_r4 => ?_)
  refine po_b (R := fun _ => True) (fun _ _ => trivial) (fun r5 _ => ?_)
  refine po_i (fun _ => ?_) (fun _ => ?_)
  ·
    exact m_k_Mo_group_49 q0 x2 r5 (z_gI r4.2 8) x2 (0 : Int32) r4.2 h_r4
  ·
    exact m_k_Mo_group_49 q0 x2 r5 (z_gI r4.2 8) x2 (1 : Int32) r4.2 h_r4
set_option maxHeartbeats 4000000 in
set_option maxRecDepth 100000 in
theorem d_k_Mo_group_20 (q0 : z_Sg) (x2 : Int32) (t1 : Int32) (q : z_Sg) (hq : z_pn q = z_pn q0) (hd : ¬ z_gI q0 4 = -1) : z_po (k_Mo_group_20 x2 t1 q) (fun o : z_Sg => z_pn o = z_pn q0) := by
  unfold k_Mo_group_20
  refine po_b (d_f_Mo_number q0 t1 q hq hd) (fun r4 h_r4 => ?_)
  refine po_b (R := fun _ => True) (fun _ _ => trivial) (fun r5 _ => ?_)
  refine po_i (fun _ => ?_) (fun _ => ?_)
  ·
    exact d_k_Mo_group_49 q0 x2 r5 (z_gI r4.2 8) x2 (0 : Int32) r4.2 h_r4 hd
  ·
    exact d_k_Mo_group_49 q0 x2 r5 (z_gI r4.2 8) x2 (1 : Int32) r4.2 h_r4 hd
set_option maxHeartbeats 4000000 in
set_option maxRecDepth 100000 in
theorem m_f_Mo_group (q0 : z_Sg) (x1 : Int32) (x2 : Int32) (q : z_Sg) (hq : z_pk q = z_pk q0) : z_po (f_Mo_group x1 x2 q) (fun o : z_Sg => z_pk o = z_pk q0) := by
  unfold f_Mo_group
  refine po_b (m_f_Mo_takeOperand q0 q hq) (fun r1 h_r1 => ?_)
  refine po_i (fun _ => ?_) (fun _ => ?_)
  ·
    exact m_k_Mo_group_20 q0 x2 (1 : Int32) r1 h_r1
  ·
    refine po_b (R := fun _ => True) (fun _ _ => trivial) (fun r3 _ => ?_)
    exact m_k_Mo_group_20 q0 x2 r3 r1 h_r1
set_option maxHeartbeats 4000000 in
set_option maxRecDepth 100000 in
theorem d_f_Mo_group (q0 : z_Sg) (x1 : Int32) (x2 : Int32) (q : z_Sg) (hq : z_pn q = z_pn q0) (hd : ¬ z_gI q0 4 = -1) : z_po (f_Mo_group x1 x2 q) (fun o : z_Sg => z_pn o = z_pn q0) := by
  unfold f_Mo_group
  refine po_b (d_f_Mo_takeOperand q0 q hq hd) (fun r1 h_r1 => ?_)
  refine po_i (fun _ => ?_) (fun _ => ?_)
  ·
    exact d_k_Mo_group_20 q0 x2 (1 : Int32) r1 h_r1 hd
  ·
    refine po_b (R := fun _ => True) (fun _ _ => trivial) (fun r3 _ => ?_)
    exact d_k_Mo_group_20 q0 x2 r3 r1 h_r1 hd
set_option maxHeartbeats 4000000 in
set_option maxRecDepth 100000 in
theorem m_k_Mo_rightBy_37 (q0 : z_Sg) (t0 : Int64) (t1 : Int64) (q : z_Sg) (hq : z_pk q = z_pk q0) : z_po (k_Mo_rightBy_37 t0 t1 q) (fun o : (Int64 × z_Sg) => z_pk o.2 = z_pk q0) := by
  unfold k_Mo_rightBy_37
  exact po_s hq
set_option maxHeartbeats 4000000 in
set_option maxRecDepth 100000 in
theorem d_k_Mo_rightBy_37 (q0 : z_Sg) (t0 : Int64) (t1 : Int64) (q : z_Sg) (hq : z_pn q = z_pn q0) : z_po (k_Mo_rightBy_37 t0 t1 q) (fun o : (Int64 × z_Sg) => z_pn o.2 = z_pn q0) := by
  unfold k_Mo_rightBy_37
  exact po_s hq
set_option maxHeartbeats 4000000 in
set_option maxRecDepth 100000 in
theorem m_k_Mo_rightBy_14 (q0 : z_Sg) (x1 : Int64) (x3 : Int32) (x4 : Int32) (t1 : Int32) (q : z_Sg) (hq : z_pk q = z_pk q0) : z_po (k_Mo_rightBy_14 x1 x3 x4 t1 q) (fun o : (Int64 × z_Sg) => z_pk o.2 = z_pk q0) := by
  unfold k_Mo_rightBy_14
  refine po_G (fun _ => ?_)
  refine po_n (fun q3 e_q3 => ?_)
  have h_q3 : z_pk q3 = z_pk q0 := by rw [e_q3]; exact hq
  refine po_i (fun _ => ?_) (fun _ => ?_)
  ·
    exact m_k_Mo_rightBy_37 q0 (z_lushr x1 (1 : Int32)) (0 : Int64) q3 h_q3
  ·
    exact m_k_Mo_rightBy_37 q0 (z_lushr x1 (1 : Int32)) (z_lshl (1 : Int64) (((8 : Int32) * x4) - (1 : Int32))) q3 h_q3
set_option maxHeartbeats 4000000 in
set_option maxRecDepth 100000 in
theorem d_k_Mo_rightBy_14 (q0 : z_Sg) (x1 : Int64) (x3 : Int32) (x4 : Int32) (t1 : Int32) (q : z_Sg) (hq : z_pn q = z_pn q0) : z_po (k_Mo_rightBy_14 x1 x3 x4 t1 q) (fun o : (Int64 × z_Sg) => z_pn o.2 = z_pn q0) := by
  unfold k_Mo_rightBy_14
  refine po_G (fun _ => ?_)
  refine po_n (fun q3 e_q3 => ?_)
  have h_q3 : z_pn q3 = z_pn q0 := by rw [e_q3]; exact hq
  refine po_i (fun _ => ?_) (fun _ => ?_)
  ·
    exact d_k_Mo_rightBy_37 q0 (z_lushr x1 (1 : Int32)) (0 : Int64) q3 h_q3
  ·
    exact d_k_Mo_rightBy_37 q0 (z_lushr x1 (1 : Int32)) (z_lshl (1 : Int64) (((8 : Int32) * x4) - (1 : Int32))) q3 h_q3
set_option maxHeartbeats 4000000 in
set_option maxRecDepth 100000 in
theorem m_f_Mo_rightBy (q0 : z_Sg) (x1 : Int64) (x3 : Int32) (x4 : Int32) (q : z_Sg) (hq : z_pk q = z_pk q0) : z_po (f_Mo_rightBy x1 x3 x4 q) (fun o : (Int64 × z_Sg) => z_pk o.2 = z_pk q0) := by
  unfold f_Mo_rightBy
  refine po_i (fun _ => ?_) (fun _ => ?_)
  ·
    exact m_k_Mo_rightBy_14 q0 x1 x3 x4 (1 : Int32) q hq
  ·
    exact m_k_Mo_rightBy_14 q0 x1 x3 x4 (0 : Int32) q hq
set_option maxHeartbeats 4000000 in
set_option maxRecDepth 100000 in
theorem d_f_Mo_rightBy (q0 : z_Sg) (x1 : Int64) (x3 : Int32) (x4 : Int32) (q : z_Sg) (hq : z_pn q = z_pn q0) : z_po (f_Mo_rightBy x1 x3 x4 q) (fun o : (Int64 × z_Sg) => z_pn o.2 = z_pn q0) := by
  unfold f_Mo_rightBy
  refine po_i (fun _ => ?_) (fun _ => ?_)
  ·
    exact d_k_Mo_rightBy_14 q0 x1 x3 x4 (1 : Int32) q hq
  ·
    exact d_k_Mo_rightBy_14 q0 x1 x3 x4 (0 : Int32) q hq
set_option maxHeartbeats 4000000 in
set_option maxRecDepth 100000 in
theorem m_k_Mo_leftBy_27 (q0 : z_Sg) (t0 : Int64) (t1 : Int64) (q : z_Sg) (hq : z_pk q = z_pk q0) : z_po (k_Mo_leftBy_27 t0 t1 q) (fun o : (Int64 × z_Sg) => z_pk o.2 = z_pk q0) := by
  unfold k_Mo_leftBy_27
  exact po_s hq
set_option maxHeartbeats 4000000 in
set_option maxRecDepth 100000 in
theorem d_k_Mo_leftBy_27 (q0 : z_Sg) (t0 : Int64) (t1 : Int64) (q : z_Sg) (hq : z_pn q = z_pn q0) : z_po (k_Mo_leftBy_27 t0 t1 q) (fun o : (Int64 × z_Sg) => z_pn o.2 = z_pn q0) := by
  unfold k_Mo_leftBy_27
  exact po_s hq
set_option maxHeartbeats 4000000 in
set_option maxRecDepth 100000 in
theorem m_f_Mo_leftBy (q0 : z_Sg) (x1 : Int64) (x3 : Int32) (x4 : Int32) (q : z_Sg) (hq : z_pk q = z_pk q0) : z_po (f_Mo_leftBy x1 x3 x4 q) (fun o : (Int64 × z_Sg) => z_pk o.2 = z_pk q0) := by
  unfold f_Mo_leftBy
  refine po_b (R := fun _ => True) (fun _ _ => trivial) (fun r1 _ => ?_)
  refine po_G (fun _ => ?_)
  refine po_n (fun q3 e_q3 => ?_)
  have h_q3 : z_pk q3 = z_pk q0 := by rw [e_q3]; exact hq
  refine po_b (R := fun _ => True) (fun _ _ => trivial) (fun r4 _ => ?_)
  refine po_i (fun _ => ?_) (fun _ => ?_)
  ·
    exact m_k_Mo_leftBy_27 q0 r4 (0 : Int64) q3 h_q3
  ·
    exact m_k_Mo_leftBy_27 q0 r4 (1 : Int64) q3 h_q3
set_option maxHeartbeats 4000000 in
set_option maxRecDepth 100000 in
theorem d_f_Mo_leftBy (q0 : z_Sg) (x1 : Int64) (x3 : Int32) (x4 : Int32) (q : z_Sg) (hq : z_pn q = z_pn q0) : z_po (f_Mo_leftBy x1 x3 x4 q) (fun o : (Int64 × z_Sg) => z_pn o.2 = z_pn q0) := by
  unfold f_Mo_leftBy
  refine po_b (R := fun _ => True) (fun _ _ => trivial) (fun r1 _ => ?_)
  refine po_G (fun _ => ?_)
  refine po_n (fun q3 e_q3 => ?_)
  have h_q3 : z_pn q3 = z_pn q0 := by rw [e_q3]; exact hq
  refine po_b (R := fun _ => True) (fun _ _ => trivial) (fun r4 _ => ?_)
  refine po_i (fun _ => ?_) (fun _ => ?_)
  ·
    exact d_k_Mo_leftBy_27 q0 r4 (0 : Int64) q3 h_q3
  ·
    exact d_k_Mo_leftBy_27 q0 r4 (1 : Int64) q3 h_q3
set_option maxHeartbeats 4000000 in
set_option maxRecDepth 100000 in
theorem m_k_Mo_shifted_174 (q0 : z_Sg) (x4 : Int32) (x5 : Int64) (q : z_Sg) (hq : z_pk q = z_pk q0) : z_po (k_Mo_shifted_174 x4 x5 q) (fun o : (Int64 × z_Sg) => z_pk o.2 = z_pk q0) := by
  unfold k_Mo_shifted_174
  refine po_b (m_f_Mo_leave q0 (2 : Int32) q hq) (fun r11 h_r11 => ?_)
  refine po_b (m_f_Mo_result q0 x5 x4 r11 h_r11) (fun r12 h_r12 => ?_)
  exact po_s h_r12
set_option maxHeartbeats 4000000 in
set_option maxRecDepth 100000 in
theorem d_k_Mo_shifted_174 (q0 : z_Sg) (x4 : Int32) (x5 : Int64) (q : z_Sg) (hq : z_pn q = z_pn q0) : z_po (k_Mo_shifted_174 x4 x5 q) (fun o : (Int64 × z_Sg) => z_pn o.2 = z_pn q0) := by
  unfold k_Mo_shifted_174
  refine po_b (d_f_Mo_leave q0 (2 : Int32) q hq) (fun r11 h_r11 => ?_)
  refine po_b (d_f_Mo_result q0 x5 x4 r11 h_r11) (fun r12 h_r12 => ?_)
  exact po_s h_r12
set_option maxHeartbeats 4000000 in
set_option maxRecDepth 100000 in
theorem m_k_Mo_shifted_162 (q0 : z_Sg) (x3 : Int32) (x4 : Int32) (x5 : Int64) (t1 : Int32) (t2 : Int32) (q : z_Sg) (hq : z_pk q = z_pk q0) : z_po (k_Mo_shifted_162 x3 x4 x5 t1 t2 q) (fun o : (Int64 × z_Sg) => z_pk o.2 = z_pk q0) := by
  unfold k_Mo_shifted_162
  refine po_g (fun _ => ?_)
  refine po_n (fun q9 e_q9 => ?_)
  have h_q9 : z_pk q9 = z_pk q0 := by rw [e_q9]; exact hq
  refine po_i (fun _ => ?_) (fun _ => ?_)
  ·
    exact m_k_Mo_shifted_174 q0 x4 x5 q9 h_q9
  ·
    refine po_b (m_f_Mo_leave q0 (6 : Int32) q9 h_q9) (fun r13 h_r13 => ?_)
    exact m_k_Mo_shifted_174 q0 x4 x5 r13 h_r13
set_option maxHeartbeats 4000000 in
set_option maxRecDepth 100000 in
theorem d_k_Mo_shifted_162 (q0 : z_Sg) (x3 : Int32) (x4 : Int32) (x5 : Int64) (t1 : Int32) (t2 : Int32) (q : z_Sg) (hq : z_pn q = z_pn q0) : z_po (k_Mo_shifted_162 x3 x4 x5 t1 t2 q) (fun o : (Int64 × z_Sg) => z_pn o.2 = z_pn q0) := by
  unfold k_Mo_shifted_162
  refine po_g (fun _ => ?_)
  refine po_n (fun q9 e_q9 => ?_)
  have h_q9 : z_pn q9 = z_pn q0 := by rw [e_q9]; exact hq
  refine po_i (fun _ => ?_) (fun _ => ?_)
  ·
    exact d_k_Mo_shifted_174 q0 x4 x5 q9 h_q9
  ·
    refine po_b (d_f_Mo_leave q0 (6 : Int32) q9 h_q9) (fun r13 h_r13 => ?_)
    exact d_k_Mo_shifted_174 q0 x4 x5 r13 h_r13
set_option maxHeartbeats 4000000 in
set_option maxRecDepth 100000 in
theorem m_k_Mo_shifted_161 (q0 : z_Sg) (x3 : Int32) (x4 : Int32) (x5 : Int64) (t1 : Int32) (q : z_Sg) (hq : z_pk q = z_pk q0) : z_po (k_Mo_shifted_161 x3 x4 x5 t1 q) (fun o : (Int64 × z_Sg) => z_pk o.2 = z_pk q0) := by
  unfold k_Mo_shifted_161
  exact m_k_Mo_shifted_162 q0 x3 x4 x5 t1 (0 : Int32) q hq
set_option maxHeartbeats 4000000 in
set_option maxRecDepth 100000 in
theorem d_k_Mo_shifted_161 (q0 : z_Sg) (x3 : Int32) (x4 : Int32) (x5 : Int64) (t1 : Int32) (q : z_Sg) (hq : z_pn q = z_pn q0) : z_po (k_Mo_shifted_161 x3 x4 x5 t1 q) (fun o : (Int64 × z_Sg) => z_pn o.2 = z_pn q0) := by
  unfold k_Mo_shifted_161
  exact d_k_Mo_shifted_162 q0 x3 x4 x5 t1 (0 : Int32) q hq
set_option maxHeartbeats 4000000 in
set_option maxRecDepth 100000 in
theorem m_k_Mo_shifted_108 (q0 : z_Sg) (x3 : Int32) (x4 : Int32) (x5 : Int64) (x7 : Int32) (q : z_Sg) (hq : z_pk q = z_pk q0) : z_po (k_Mo_shifted_108 x3 x4 x5 x7 q) (fun o : (Int64 × z_Sg) => z_pk o.2 = z_pk q0) := by
  unfold k_Mo_shifted_108
  refine po_i (fun _ => ?_) (fun _ => ?_)
  ·
    refine po_b (R := fun _ => True) (fun _ _ => trivial) (fun r15 _ => ?_)
    refine po_i (fun _ => ?_) (fun _ => ?_)
    ·
      exact m_k_Mo_shifted_162 q0 x3 x4 x5 (6 : Int32) (0 : Int32) q hq
    ·
      exact m_k_Mo_shifted_162 q0 x3 x4 x5 (6 : Int32) (1 : Int32) q hq
  ·
    refine po_i (fun _ => ?_) (fun _ => ?_)
    ·
      refine po_i (fun _ => ?_) (fun _ => ?_)
      ·
        exact m_k_Mo_shifted_161 q0 x3 x4 x5 (6 : Int32) q hq
      ·
        exact m_k_Mo_shifted_162 q0 x3 x4 x5 (6 : Int32) (1 : Int32) q hq
    ·
      exact m_k_Mo_shifted_161 q0 x3 x4 x5 (6 : Int32) q hq
set_option maxHeartbeats 4000000 in
set_option maxRecDepth 100000 in
theorem d_k_Mo_shifted_108 (q0 : z_Sg) (x3 : Int32) (x4 : Int32) (x5 : Int64) (x7 : Int32) (q : z_Sg) (hq : z_pn q = z_pn q0) : z_po (k_Mo_shifted_108 x3 x4 x5 x7 q) (fun o : (Int64 × z_Sg) => z_pn o.2 = z_pn q0) := by
  unfold k_Mo_shifted_108
  refine po_i (fun _ => ?_) (fun _ => ?_)
  ·
    refine po_b (R := fun _ => True) (fun _ _ => trivial) (fun r15 _ => ?_)
    refine po_i (fun _ => ?_) (fun _ => ?_)
    ·
      exact d_k_Mo_shifted_162 q0 x3 x4 x5 (6 : Int32) (0 : Int32) q hq
    ·
      exact d_k_Mo_shifted_162 q0 x3 x4 x5 (6 : Int32) (1 : Int32) q hq
  ·
    refine po_i (fun _ => ?_) (fun _ => ?_)
    ·
      refine po_i (fun _ => ?_) (fun _ => ?_)
      ·
        exact d_k_Mo_shifted_161 q0 x3 x4 x5 (6 : Int32) q hq
      ·
        exact d_k_Mo_shifted_162 q0 x3 x4 x5 (6 : Int32) (1 : Int32) q hq
    ·
      exact d_k_Mo_shifted_161 q0 x3 x4 x5 (6 : Int32) q hq
set_option maxHeartbeats 4000000 in
set_option maxRecDepth 100000 in
theorem m_k_Mo_shifted_67 (q0 : z_Sg) (ih14 : Int32 × Int32 × Int64 × Int32 × Int32 × z_Sg → Option (Int64 × z_Sg)) (x3 : Int32) (x4 : Int32) (x7 : Int32) (x8 : Int32) (t0 : Int64) (q : z_Sg) (h_ih14 : ∀ a : Int32 × Int32 × Int64 × Int32 × Int32 × z_Sg, z_pk a.2.2.2.2.2 = z_pk q0 → z_po (ih14 a) (fun o : (Int64 × z_Sg) => z_pk o.2 = z_pk q0)) (hq : z_pk q = z_pk q0) : z_po (k_Mo_shifted_67 ih14 x3 x4 x7 x8 t0 q) (fun o : (Int64 × z_Sg) => z_pk o.2 = z_pk q0) := by
  unfold k_Mo_shifted_67
  refine po_n (fun n22 _ => ?_)
  exact h_ih14 _ hq
set_option maxHeartbeats 4000000 in
set_option maxRecDepth 100000 in
theorem d_k_Mo_shifted_67 (q0 : z_Sg) (ih14 : Int32 × Int32 × Int64 × Int32 × Int32 × z_Sg → Option (Int64 × z_Sg)) (x3 : Int32) (x4 : Int32) (x7 : Int32) (x8 : Int32) (t0 : Int64) (q : z_Sg) (h_ih14 : ∀ a : Int32 × Int32 × Int64 × Int32 × Int32 × z_Sg, z_pn a.2.2.2.2.2 = z_pn q0 → z_po (ih14 a) (fun o : (Int64 × z_Sg) => z_pn o.2 = z_pn q0)) (hq : z_pn q = z_pn q0) : z_po (k_Mo_shifted_67 ih14 x3 x4 x7 x8 t0 q) (fun o : (Int64 × z_Sg) => z_pn o.2 = z_pn q0) := by
  unfold k_Mo_shifted_67
  refine po_n (fun n22 _ => ?_)
  exact h_ih14 _ hq
set_option maxHeartbeats 4000000 in
set_option maxRecDepth 100000 in
theorem m_k_Mo_shifted_62 (q0 : z_Sg) (ih14 : Int32 × Int32 × Int64 × Int32 × Int32 × z_Sg → Option (Int64 × z_Sg)) (x3 : Int32) (x4 : Int32) (x7 : Int32) (x8 : Int32) (t1 : Int64) (t2 : Int32) (q : z_Sg) (h_ih14 : ∀ a : Int32 × Int32 × Int64 × Int32 × Int32 × z_Sg, z_pk a.2.2.2.2.2 = z_pk q0 → z_po (ih14 a) (fun o : (Int64 × z_Sg) => z_pk o.2 = z_pk q0)) (hq : z_pk q = z_pk q0) : z_po (k_Mo_shifted_62 ih14 x3 x4 x7 x8 t1 t2 q) (fun o : (Int64 × z_Sg) => z_pk o.2 = z_pk q0) := by
  unfold k_Mo_shifted_62
  refine po_b (m_f_Mo_rightBy q0 t1 t2 x4 q hq) (fun r21 h_r21 => ?_)
  exact m_k_Mo_shifted_67 q0 ih14 x3 x4 x7 x8 r21.1 r21.2 h_ih14 h_r21
set_option maxHeartbeats 4000000 in
set_option maxRecDepth 100000 in
theorem d_k_Mo_shifted_62 (q0 : z_Sg) (ih14 : Int32 × Int32 × Int64 × Int32 × Int32 × z_Sg → Option (Int64 × z_Sg)) (x3 : Int32) (x4 : Int32) (x7 : Int32) (x8 : Int32) (t1 : Int64) (t2 : Int32) (q : z_Sg) (h_ih14 : ∀ a : Int32 × Int32 × Int64 × Int32 × Int32 × z_Sg, z_pn a.2.2.2.2.2 = z_pn q0 → z_po (ih14 a) (fun o : (Int64 × z_Sg) => z_pn o.2 = z_pn q0)) (hq : z_pn q = z_pn q0) : z_po (k_Mo_shifted_62 ih14 x3 x4 x7 x8 t1 t2 q) (fun o : (Int64 × z_Sg) => z_pn o.2 = z_pn q0) := by
  unfold k_Mo_shifted_62
  refine po_b (d_f_Mo_rightBy q0 t1 t2 x4 q hq) (fun r21 h_r21 => ?_)
  exact d_k_Mo_shifted_67 q0 ih14 x3 x4 x7 x8 r21.1 r21.2 h_ih14 h_r21
set_option maxHeartbeats 4000000 in
set_option maxRecDepth 100000 in
theorem m_k_Mo_shifted_61 (q0 : z_Sg) (ih14 : Int32 × Int32 × Int64 × Int32 × Int32 × z_Sg → Option (Int64 × z_Sg)) (x3 : Int32) (x4 : Int32) (x7 : Int32) (x8 : Int32) (t1 : Int64) (q : z_Sg) (h_ih14 : ∀ a : Int32 × Int32 × Int64 × Int32 × Int32 × z_Sg, z_pk a.2.2.2.2.2 = z_pk q0 → z_po (ih14 a) (fun o : (Int64 × z_Sg) => z_pk o.2 = z_pk q0)) (hq : z_pk q = z_pk q0) : z_po (k_Mo_shifted_61 ih14 x3 x4 x7 x8 t1 q) (fun o : (Int64 × z_Sg) => z_pk o.2 = z_pk q0) := by
  unfold k_Mo_shifted_61
  exact m_k_Mo_shifted_62 q0 ih14 x3 x4 x7 x8 t1 (0 : Int32) q h_ih14 hq
set_option maxHeartbeats 4000000 in
set_option maxRecDepth 100000 in
theorem d_k_Mo_shifted_61 (q0 : z_Sg) (ih14 : Int32 × Int32 × Int64 × Int32 × Int32 × z_Sg → Option (Int64 × z_Sg)) (x3 : Int32) (x4 : Int32) (x7 : Int32) (x8 : Int32) (t1 : Int64) (q : z_Sg) (h_ih14 : ∀ a : Int32 × Int32 × Int64 × Int32 × Int32 × z_Sg, z_pn a.2.2.2.2.2 = z_pn q0 → z_po (ih14 a) (fun o : (Int64 × z_Sg) => z_pn o.2 = z_pn q0)) (hq : z_pn q = z_pn q0) : z_po (k_Mo_shifted_61 ih14 x3 x4 x7 x8 t1 q) (fun o : (Int64 × z_Sg) => z_pn o.2 = z_pn q0) := by
  unfold k_Mo_shifted_61
  exact d_k_Mo_shifted_62 q0 ih14 x3 x4 x7 x8 t1 (0 : Int32) q h_ih14 hq
set_option maxHeartbeats 4000000 in
set_option maxRecDepth 100000 in
theorem m_kb_Mo_shifted_14 (q0 : z_Sg) (ih14 : Int32 × Int32 × Int64 × Int32 × Int32 × z_Sg → Option (Int64 × z_Sg)) (x3 : Int32) (x4 : Int32) (x5 : Int64) (x7 : Int32) (x8 : Int32) (q : z_Sg) (h_ih14 : ∀ a : Int32 × Int32 × Int64 × Int32 × Int32 × z_Sg, z_pk a.2.2.2.2.2 = z_pk q0 → z_po (ih14 a) (fun o : (Int64 × z_Sg) => z_pk o.2 = z_pk q0)) (hq : z_pk q = z_pk q0) : z_po (kb_Mo_shifted_14 ih14 x3 x4 x5 x7 x8 q) (fun o : (Int64 × z_Sg) => z_pk o.2 = z_pk q0) := by
  unfold kb_Mo_shifted_14
  refine po_i (fun _ => ?_) (fun _ => ?_)
  ·
    refine po_g (fun _ => ?_)
    refine po_n (fun q4 e_q4 => ?_)
    have h_q4 : z_pk q4 = z_pk q0 := by rw [e_q4]; exact hq
    refine po_i (fun _ => ?_) (fun _ => ?_)
    ·
      exact m_k_Mo_shifted_108 q0 x3 x4 x5 x7 q4 h_q4
    ·
      refine po_i (fun _ => ?_) (fun _ => ?_)
      ·
        exact m_k_Mo_shifted_108 q0 x3 x4 x5 x7 q4 h_q4
      ·
        refine po_b (m_f_Mo_leave q0 (0 : Int32) q4 h_q4) (fun r18 h_r18 => ?_)
        exact m_k_Mo_shifted_108 q0 x3 x4 x5 x7 r18 h_r18
  ·
    refine po_i (fun _ => ?_) (fun _ => ?_)
    ·
      refine po_b (m_f_Mo_leftBy q0 x5 (0 : Int32) x4 q hq) (fun r24 h_r24 => ?_)
      exact m_k_Mo_shifted_67 q0 ih14 x3 x4 x7 x8 r24.1 r24.2 h_ih14 h_r24
    ·
      refine po_i (fun _ => ?_) (fun _ => ?_)
      ·
        refine po_i (fun _ => ?_) (fun _ => ?_)
        ·
          exact m_k_Mo_shifted_61 q0 ih14 x3 x4 x7 x8 x5 q h_ih14 hq
        ·
          exact m_k_Mo_shifted_62 q0 ih14 x3 x4 x7 x8 x5 (1 : Int32) q h_ih14 hq
      ·
        exact m_k_Mo_shifted_61 q0 ih14 x3 x4 x7 x8 x5 q h_ih14 hq
set_option maxHeartbeats 4000000 in
set_option maxRecDepth 100000 in
theorem d_kb_Mo_shifted_14 (q0 : z_Sg) (ih14 : Int32 × Int32 × Int64 × Int32 × Int32 × z_Sg → Option (Int64 × z_Sg)) (x3 : Int32) (x4 : Int32) (x5 : Int64) (x7 : Int32) (x8 : Int32) (q : z_Sg) (h_ih14 : ∀ a : Int32 × Int32 × Int64 × Int32 × Int32 × z_Sg, z_pn a.2.2.2.2.2 = z_pn q0 → z_po (ih14 a) (fun o : (Int64 × z_Sg) => z_pn o.2 = z_pn q0)) (hq : z_pn q = z_pn q0) : z_po (kb_Mo_shifted_14 ih14 x3 x4 x5 x7 x8 q) (fun o : (Int64 × z_Sg) => z_pn o.2 = z_pn q0) := by
  unfold kb_Mo_shifted_14
  refine po_i (fun _ => ?_) (fun _ => ?_)
  ·
    refine po_g (fun _ => ?_)
    refine po_n (fun q4 e_q4 => ?_)
    have h_q4 : z_pn q4 = z_pn q0 := by rw [e_q4]; exact hq
    refine po_i (fun _ => ?_) (fun _ => ?_)
    ·
      exact d_k_Mo_shifted_108 q0 x3 x4 x5 x7 q4 h_q4
    ·
      refine po_i (fun _ => ?_) (fun _ => ?_)
      ·
        exact d_k_Mo_shifted_108 q0 x3 x4 x5 x7 q4 h_q4
      ·
        refine po_b (d_f_Mo_leave q0 (0 : Int32) q4 h_q4) (fun r18 h_r18 => ?_)
        exact d_k_Mo_shifted_108 q0 x3 x4 x5 x7 r18 h_r18
  ·
    refine po_i (fun _ => ?_) (fun _ => ?_)
    ·
      refine po_b (d_f_Mo_leftBy q0 x5 (0 : Int32) x4 q hq) (fun r24 h_r24 => ?_)
      exact d_k_Mo_shifted_67 q0 ih14 x3 x4 x7 x8 r24.1 r24.2 h_ih14 h_r24
    ·
      refine po_i (fun _ => ?_) (fun _ => ?_)
      ·
        refine po_i (fun _ => ?_) (fun _ => ?_)
        ·
          exact d_k_Mo_shifted_61 q0 ih14 x3 x4 x7 x8 x5 q h_ih14 hq
        ·
          exact d_k_Mo_shifted_62 q0 ih14 x3 x4 x7 x8 x5 (1 : Int32) q h_ih14 hq
      ·
        exact d_k_Mo_shifted_61 q0 ih14 x3 x4 x7 x8 x5 q h_ih14 hq
set_option maxHeartbeats 4000000 in
set_option maxRecDepth 100000 in
theorem m_k_Mo_shifted_14 (q0 : z_Sg) (x3 : Int32) (x4 : Int32) (x5 : Int64) (x7 : Int32) (x8 : Int32) (q : z_Sg) (hq : z_pk q = z_pk q0) : z_po (k_Mo_shifted_14 x3 x4 x5 x7 x8 q) (fun o : (Int64 × z_Sg) => z_pk o.2 = z_pk q0) := by
  unfold k_Mo_shifted_14
  exact po_l (fun a : Int32 × Int32 × Int64 × Int32 × Int32 × z_Sg => z_pk a.2.2.2.2.2 = z_pk q0) (fun ih14 a ha hih => m_kb_Mo_shifted_14 q0 ih14 a.1 a.2.1 a.2.2.1 a.2.2.2.1 a.2.2.2.2.1 a.2.2.2.2.2  hih ha) _ _ hq
set_option maxHeartbeats 4000000 in
set_option maxRecDepth 100000 in
theorem d_k_Mo_shifted_14 (q0 : z_Sg) (x3 : Int32) (x4 : Int32) (x5 : Int64) (x7 : Int32) (x8 : Int32) (q : z_Sg) (hq : z_pn q = z_pn q0) : z_po (k_Mo_shifted_14 x3 x4 x5 x7 x8 q) (fun o : (Int64 × z_Sg) => z_pn o.2 = z_pn q0) := by
  unfold k_Mo_shifted_14
  exact po_l (fun a : Int32 × Int32 × Int64 × Int32 × Int32 × z_Sg => z_pn a.2.2.2.2.2 = z_pn q0) (fun ih14 a ha hih => d_kb_Mo_shifted_14 q0 ih14 a.1 a.2.1 a.2.2.1 a.2.2.2.1 a.2.2.2.2.1 a.2.2.2.2.2  hih ha) _ _ hq
set_option maxHeartbeats 4000000 in
set_option maxRecDepth 100000 in
theorem m_f_Mo_shifted (q0 : z_Sg) (x1 : Int64) (x3 : Int32) (x4 : Int32) (q : z_Sg) (hq : z_pk q = z_pk q0) : z_po (f_Mo_shifted x1 x3 x4 q) (fun o : (Int64 × z_Sg) => z_pk o.2 = z_pk q0) := by
  unfold f_Mo_shifted
  refine po_b (R := fun _ => True) (fun _ _ => trivial) (fun r1 _ => ?_)
  exact m_k_Mo_shifted_14 q0 x3 x4 x1 r1 (0 : Int32) q hq
set_option maxHeartbeats 4000000 in
set_option maxRecDepth 100000 in
theorem d_f_Mo_shifted (q0 : z_Sg) (x1 : Int64) (x3 : Int32) (x4 : Int32) (q : z_Sg) (hq : z_pn q = z_pn q0) : z_po (f_Mo_shifted x1 x3 x4 q) (fun o : (Int64 × z_Sg) => z_pn o.2 = z_pn q0) := by
  unfold f_Mo_shifted
  refine po_b (R := fun _ => True) (fun _ _ => trivial) (fun r1 _ => ?_)
  exact d_k_Mo_shifted_14 q0 x3 x4 x1 r1 (0 : Int32) q hq
set_option maxHeartbeats 4000000 in
set_option maxRecDepth 100000 in
theorem m_k_Mo_rotated_281 (q0 : z_Sg) (x7 : Int64) (q : z_Sg) (hq : z_pk q = z_pk q0) : z_po (k_Mo_rotated_281 x7 q) (fun o : (Int64 × z_Sg) => z_pk o.2 = z_pk q0) := by
  unfold k_Mo_rotated_281
  exact po_s hq
set_option maxHeartbeats 4000000 in
set_option maxRecDepth 100000 in
theorem d_k_Mo_rotated_281 (q0 : z_Sg) (x7 : Int64) (q : z_Sg) (hq : z_pn q = z_pn q0) : z_po (k_Mo_rotated_281 x7 q) (fun o : (Int64 × z_Sg) => z_pn o.2 = z_pn q0) := by
  unfold k_Mo_rotated_281
  exact po_s hq
