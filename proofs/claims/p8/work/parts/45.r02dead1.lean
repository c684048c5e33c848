set_option maxHeartbeats 4000000 in
set_option maxRecDepth 100000 in
theorem m_k_Mo_rotated_269 (q0 : z_Sg) (x3 : Int32) (x7 : Int64) (t1 : Int32) (t2 : Int32) (q : z_Sg) (hq : z_pk q = z_pk q0) : z_po (k_Mo_rotated_269 x3 x7 t1 t2 q) (fun o : (Int64 × z_Sg) => z_pk o.2 = z_pk q0) := by
  unfold k_Mo_rotated_269
  refine po_g (fun _ => ?_)
  refine po_n (fun q11 e_q11 => ?_)
  have h_q11 : z_pk q11 = z_pk q0 := by rw [e_q11]; exact hq
  refine po_i (fun _ => ?_) (fun _ => ?_)
  ·
    exact m_k_Mo_rotated_281 q0 x7 q11 h_q11
  ·
    refine po_b (m_f_Mo_leave q0 (6 : Int32) q11 h_q11) (fun r13 h_r13 => ?_)
    exact m_k_Mo_rotated_281 q0 x7 r13 h_r13
set_option maxHeartbeats 4000000 in
set_option maxRecDepth 100000 in
theorem d_k_Mo_rotated_269 (q0 : z_Sg) (x3 : Int32) (x7 : Int64) (t1 : Int32) (t2 : Int32) (q : z_Sg) (hq : z_pn q = z_pn q0) : z_po (k_Mo_rotated_269 x3 x7 t1 t2 q) (fun o : (Int64 × z_Sg) => z_pn o.2 = z_pn q0) := by
  unfold k_Mo_rotated_269
  refine po_g (fun _ => ?_)
  refine po_n (fun q11 e_q11 => ?_)
  have h_q11 : z_pn q11 = z_pn q0 := by rw [e_q11]; exact hq
  refine po_i (fun _ => ?_) (fun _ => ?_)
  ·
    exact d_k_Mo_rotated_281 q0 x7 q11 h_q11
  ·
    refine po_b (d_f_Mo_leave q0 (6 : Int32) q11 h_q11) (fun r13 h_r13 => ?_)
    exact d_k_Mo_rotated_281 q0 x7 r13 h_r13
set_option maxHeartbeats 4000000 in
set_option maxRecDepth 100000 in
theorem m_k_Mo_rotated_261 (q0 : z_Sg) (x3 : Int32) (x7 : Int64) (t1 : Int32) (t2 : Int32) (t3 : Int32) (q : z_Sg) (hq : z_pk q = z_pk q0) : z_po (k_Mo_rotated_261 x3 x7 t1 t2 t3 q) (fun o : (Int64 × z_Sg) => z_pk o.2 = z_pk q0) := by
  unfold k_Mo_rotated_261
  refine po_i (fun _ => ?_) (fun _ => ?_)
  ·
    exact m_k_Mo_rotated_269 q0 x3 x7 t1 (0 : Int32) q hq
  ·
    exact m_k_Mo_rotated_269 q0 x3 x7 t1 (1 : Int32) q hq
set_option maxHeartbeats 4000000 in
set_option maxRecDepth 100000 in
theorem d_k_Mo_rotated_261 (q0 : z_Sg) (x3 : Int32) (x7 : Int64) (t1 : Int32) (t2 : Int32) (t3 : Int32) (q : z_Sg) (hq : z_pn q = z_pn q0) : z_po (k_Mo_rotated_261 x3 x7 t1 t2 t3 q) (fun o : (Int64 × z_Sg) => z_pn o.2 = z_pn q0) := by
  unfold k_Mo_rotated_261
  refine po_i (fun _ => ?_) (fun _ => ?_)
  ·
    exact d_k_Mo_rotated_269 q0 x3 x7 t1 (0 : Int32) q hq
  ·
    exact d_k_Mo_rotated_269 q0 x3 x7 t1 (1 : Int32) q hq
set_option maxHeartbeats 4000000 in
set_option maxRecDepth 100000 in
theorem m_k_Mo_rotated_230 (q0 : z_Sg) (x3 : Int32) (x4 : Int32) (x5 : Int32) (x7 : Int64) (t0 : Int32) (q : z_Sg) (hq : z_pk q = z_pk q0) : z_po (k_Mo_rotated_230 x3 x4 x5 x7 t0 q) (fun o : (Int64 × z_Sg) => z_pk o.2 = z_pk q0) := by
  unfold k_Mo_rotated_230
  refine po_b (R := fun _ => True) (fun _ _ => trivial) (fun r7 _ => ?_)
  refine po_i (fun _ => ?_) (fun _ => ?_)
  ·
    exact m_k_Mo_rotated_261 q0 x3 x7 (6 : Int32) r7 t0 q hq
  ·
    refine po_g (fun _ => ?_)
    exact m_k_Mo_rotated_261 q0 x3 x7 (6 : Int32) r7 (z_gN q 1 (0 : Int32).toNatClampNeg) q hq
set_option maxHeartbeats 4000000 in
set_option maxRecDepth 100000 in
theorem d_k_Mo_rotated_230 (q0 : z_Sg) (x3 : Int32) (x4 : Int32) (x5 : Int32) (x7 : Int64) (t0 : Int32) (q : z_Sg) (hq : z_pn q = z_pn q0) : z_po (k_Mo_rotated_230 x3 x4 x5 x7 t0 q) (fun o : (Int64 × z_Sg) => z_pn o.2 = z_pn q0) := by
  unfold k_Mo_rotated_230
  refine po_b (R := fun _ => True) (fun _ _ => trivial) (fun r7 _ => ?_)
  refine po_i (fun _ => ?_) (fun _ => ?_)
  ·
    exact d_k_Mo_rotated_261 q0 x3 x7 (6 : Int32) r7 t0 q hq
  ·
    refine po_g (fun _ => ?_)
    exact d_k_Mo_rotated_261 q0 x3 x7 (6 : Int32) r7 (z_gN q 1 (0 : Int32).toNatClampNeg) q hq
set_option maxHeartbeats 4000000 in
set_option maxRecDepth 100000 in
theorem m_k_Mo_rotated_208 (q0 : z_Sg) (x3 : Int32) (x4 : Int32) (x5 : Int32) (x7 : Int64) (q : z_Sg) (hq : z_pk q = z_pk q0) : z_po (k_Mo_rotated_208 x3 x4 x5 x7 q) (fun o : (Int64 × z_Sg) => z_pk o.2 = z_pk q0) := by
  unfold k_Mo_rotated_208
  refine po_i (fun _ => ?_) (fun _ => ?_)
  ·
    exact m_k_Mo_rotated_230 q0 x3 x4 x5 x7 (1 : Int32) q hq
  ·
    exact m_k_Mo_rotated_230 q0 x3 x4 x5 x7 (0 : Int32) q hq
set_option maxHeartbeats 4000000 in
set_option maxRecDepth 100000 in
theorem d_k_Mo_rotated_208 (q0 : z_Sg) (x3 : Int32) (x4 : Int32) (x5 : Int32) (x7 : Int64) (q : z_Sg) (hq : z_pn q = z_pn q0) : z_po (k_Mo_rotated_208 x3 x4 x5 x7 q) (fun o : (Int64 × z_Sg) => z_pn o.2 = z_pn q0) := by
  unfold k_Mo_rotated_208
  refine po_i (fun _ => ?_) (fun _ => ?_)
  ·
    exact d_k_Mo_rotated_230 q0 x3 x4 x5 x7 (1 : Int32) q hq
  ·
    exact d_k_Mo_rotated_230 q0 x3 x4 x5 x7 (0 : Int32) q hq
set_option maxHeartbeats 4000000 in
set_option maxRecDepth 100000 in
theorem m_k_Mo_rotated_187 (q0 : z_Sg) (x3 : Int32) (x4 : Int32) (x5 : Int32) (x7 : Int64) (q : z_Sg) (hq : z_pk q = z_pk q0) : z_po (k_Mo_rotated_187 x3 x4 x5 x7 q) (fun o : (Int64 × z_Sg) => z_pk o.2 = z_pk q0) := by
  unfold k_Mo_rotated_187
  refine po_i (fun _ => ?_) (fun _ => ?_)
  ·
    refine po_b (R := fun _ => True) (fun _ _ => trivial) (fun r15 _ => ?_)
    refine po_g (fun _ => ?_)
    refine po_n (fun q17 e_q17 => ?_)
    have h_q17 : z_pk q17 = z_pk q0 := by rw [e_q17]; exact hq
    exact m_k_Mo_rotated_208 q0 x3 x4 x5 x7 q17 h_q17
  ·
    exact m_k_Mo_rotated_208 q0 x3 x4 x5 x7 q hq
set_option maxHeartbeats 4000000 in
set_option maxRecDepth 100000 in
theorem d_k_Mo_rotated_187 (q0 : z_Sg) (x3 : Int32) (x4 : Int32) (x5 : Int32) (x7 : Int64) (q : z_Sg) (hq : z_pn q = z_pn q0) : z_po (k_Mo_rotated_187 x3 x4 x5 x7 q) (fun o : (Int64 × z_Sg) => z_pn o.2 = z_pn q0) := by
  unfold k_Mo_rotated_187
  refine po_i (fun _ => ?_) (fun _ => ?_)
  ·
    refine po_b (R := fun _ => True) (fun _ _ => trivial) (fun r15 _ => ?_)
    refine po_g (fun _ => ?_)
    refine po_n (fun q17 e_q17 => ?_)
    have h_q17 : z_pn q17 = z_pn q0 := by rw [e_q17]; exact hq
    exact d_k_Mo_rotated_208 q0 x3 x4 x5 x7 q17 h_q17
  ·
    exact d_k_Mo_rotated_208 q0 x3 x4 x5 x7 q hq
set_option maxHeartbeats 4000000 in
set_option maxRecDepth 100000 in
theorem m_k_Mo_rotated_186 (q0 : z_Sg) (x3 : Int32) (x4 : Int32) (x5 : Int32) (x7 : Int64) (t1 : Int32) (t2 : Int32) (q : z_Sg) (hq : z_pk q = z_pk q0) : z_po (k_Mo_rotated_186 x3 x4 x5 x7 t1 t2 q) (fun o : (Int64 × z_Sg) => z_pk o.2 = z_pk q0) := by
  unfold k_Mo_rotated_186
  refine po_g (fun _ => ?_)
  refine po_n (fun q20 e_q20 => ?_)
  have h_q20 : z_pk q20 = z_pk q0 := by rw [e_q20]; exact hq
  exact m_k_Mo_rotated_187 q0 x3 x4 x5 x7 q20 h_q20
set_option maxHeartbeats 4000000 in
set_option maxRecDepth 100000 in
theorem d_k_Mo_rotated_186 (q0 : z_Sg) (x3 : Int32) (x4 : Int32) (x5 : Int32) (x7 : Int64) (t1 : Int32) (t2 : Int32) (q : z_Sg) (hq : z_pn q = z_pn q0) : z_po (k_Mo_rotated_186 x3 x4 x5 x7 t1 t2 q) (fun o : (Int64 × z_Sg) => z_pn o.2 = z_pn q0) := by
  unfold k_Mo_rotated_186
  refine po_g (fun _ => ?_)
  refine po_n (fun q20 e_q20 => ?_)
  have h_q20 : z_pn q20 = z_pn q0 := by rw [e_q20]; exact hq
  exact d_k_Mo_rotated_187 q0 x3 x4 x5 x7 q20 h_q20
set_option maxHeartbeats 4000000 in
set_option maxRecDepth 100000 in
theorem m_k_Mo_rotated_154 (q0 : z_Sg) (ih51 : Int32 × Int32 × Int32 × Int32 × Int64 × Int32 × z_Sg → Option (Int64 × z_Sg)) (x3 : Int32) (x4 : Int32) (x5 : Int32) (x6 : Int32) (x7 : Int64) (x9 : Int32) (q : z_Sg) (h_ih51 : ∀ a : Int32 × Int32 × Int32 × Int32 × Int64 × Int32 × z_Sg, z_pk a.2.2.2.2.2.2 = z_pk q0 → z_po (ih51 a) (fun o : (Int64 × z_Sg) => z_pk o.2 = z_pk q0)) (hq : z_pk q = z_pk q0) : z_po (k_Mo_rotated_154 ih51 x3 x4 x5 x6 x7 x9 q) (fun o : (Int64 × z_Sg) => z_pk o.2 = z_pk q0) := by
  unfold k_Mo_rotated_154
  refine po_n (fun n27 _ => ?_)
  exact h_ih51 _ hq
set_option maxHeartbeats 4000000 in
set_option maxRecDepth 100000 in
theorem d_k_Mo_rotated_154 (q0 : z_Sg) (ih51 : Int32 × Int32 × Int32 × Int32 × Int64 × Int32 × z_Sg → Option (Int64 × z_Sg)) (x3 : Int32) (x4 : Int32) (x5 : Int32) (x6 : Int32) (x7 : Int64) (x9 : Int32) (q : z_Sg) (h_ih51 : ∀ a : Int32 × Int32 × Int32 × Int32 × Int64 × Int32 × z_Sg, z_pn a.2.2.2.2.2.2 = z_pn q0 → z_po (ih51 a) (fun o : (Int64 × z_Sg) => z_pn o.2 = z_pn q0)) (hq : z_pn q = z_pn q0) : z_po (k_Mo_rotated_154 ih51 x3 x4 x5 x6 x7 x9 q) (fun o : (Int64 × z_Sg) => z_pn o.2 = z_pn q0) := by
  unfold k_Mo_rotated_154
  refine po_n (fun n27 _ => ?_)
  exact h_ih51 _ hq
set_option maxHeartbeats 4000000 in
set_option maxRecDepth 100000 in
theorem m_k_Mo_rotated_134 (q0 : z_Sg) (ih51 : Int32 × Int32 × Int32 × Int32 × Int64 × Int32 × z_Sg → Option (Int64 × z_Sg)) (x3 : Int32) (x4 : Int32) (x5 : Int32) (x6 : Int32) (x9 : Int32) (t0 : Int64) (q : z_Sg) (h_ih51 : ∀ a : Int32 × Int32 × Int32 × Int32 × Int64 × Int32 × z_Sg, z_pk a.2.2.2.2.2.2 = z_pk q0 → z_po (ih51 a) (fun o : (Int64 × z_Sg) => z_pk o.2 = z_pk q0)) (hq : z_pk q = z_pk q0) : z_po (k_Mo_rotated_134 ih51 x3 x4 x5 x6 x9 t0 q) (fun o : (Int64 × z_Sg) => z_pk o.2 = z_pk q0) := by
  unfold k_Mo_rotated_134
  refine po_i (fun _ => ?_) (fun _ => ?_)
  ·
    exact m_k_Mo_rotated_154 q0 ih51 x3 x4 x5 x6 t0 x9 q h_ih51 hq
  ·
    refine po_g (fun _ => ?_)
    refine po_n (fun q29 e_q29 => ?_)
    have h_q29 : z_pk q29 = z_pk q0 := by rw [e_q29]; exact hq
    exact m_k_Mo_rotated_154 q0 ih51 x3 x4 x5 x6 t0 x9 q29 h_ih51 h_q29
set_option maxHeartbeats 4000000 in
set_option maxRecDepth 100000 in
theorem d_k_Mo_rotated_134 (q0 : z_Sg) (ih51 : Int32 × Int32 × Int32 × Int32 × Int64 × Int32 × z_Sg → Option (Int64 × z_Sg)) (x3 : Int32) (x4 : Int32) (x5 : Int32) (x6 : Int32) (x9 : Int32) (t0 : Int64) (q : z_Sg) (h_ih51 : ∀ a : Int32 × Int32 × Int32 × Int32 × Int64 × Int32 × z_Sg, z_pn a.2.2.2.2.2.2 = z_pn q0 → z_po (ih51 a) (fun o : (Int64 × z_Sg) => z_pn o.2 = z_pn q0)) (hq : z_pn q = z_pn q0) : z_po (k_Mo_rotated_134 ih51 x3 x4 x5 x6 x9 t0 q) (fun o : (Int64 × z_Sg) => z_pn o.2 = z_pn q0) := by
  unfold k_Mo_rotated_134
  refine po_i (fun _ => ?_) (fun _ => ?_)
  ·
    exact d_k_Mo_rotated_154 q0 ih51 x3 x4 x5 x6 t0 x9 q h_ih51 hq
  ·
    refine po_g (fun _ => ?_)
    refine po_n (fun q29 e_q29 => ?_)
    have h_q29 : z_pn q29 = z_pn q0 := by rw [e_q29]; exact hq
    exact d_k_Mo_rotated_154 q0 ih51 x3 x4 x5 x6 t0 x9 q29 h_ih51 h_q29
set_option maxHeartbeats 4000000 in
set_option maxRecDepth 100000 in
theorem m_k_Mo_rotated_104 (q0 : z_Sg) (ih51 : Int32 × Int32 × Int32 × Int32 × Int64 × Int32 × z_Sg → Option (Int64 × z_Sg)) (x3 : Int32) (x4 : Int32) (x5 : Int32) (x6 : Int32) (x7 : Int64) (x9 : Int32) (t0 : Int32) (q : z_Sg) (h_ih51 : ∀ a : Int32 × Int32 × Int32 × Int32 × Int64 × Int32 × z_Sg, z_pk a.2.2.2.2.2.2 = z_pk q0 → z_po (ih51 a) (fun o : (Int64 × z_Sg) => z_pk o.2 = z_pk q0)) (hq : z_pk q = z_pk q0) : z_po (k_Mo_rotated_104 ih51 x3 x4 x5 x6 x7 x9 t0 q) (fun o : (Int64 × z_Sg) => z_pk o.2 = z_pk q0) := by
  unfold k_Mo_rotated_104
  refine po_i (fun _ => ?_) (fun _ => ?_)
  ·
    refine po_b (m_f_Mo_rightBy q0 x7 t0 x4 q hq) (fun r25 h_r25 => ?_)
    exact m_k_Mo_rotated_134 q0 ih51 x3 x4 x5 x6 x9 r25.1 r25.2 h_ih51 h_r25
  ·
    refine po_b (m_f_Mo_leftBy q0 x7 t0 x4 q hq) (fun r30 h_r30 => ?_)
    exact m_k_Mo_rotated_134 q0 ih51 x3 x4 x5 x6 x9 r30.1 r30.2 h_ih51 h_r30
set_option maxHeartbeats 4000000 in
set_option maxRecDepth 100000 in
theorem d_k_Mo_rotated_104 (q0 : z_Sg) (ih51 : Int32 × Int32 × Int32 × Int32 × Int64 × Int32 × z_Sg → Option (Int64 × z_Sg)) (x3 : Int32) (x4 : Int32) (x5 : Int32) (x6 : Int32) (x7 : Int64) (x9 : Int32) (t0 : Int32) (q : z_Sg) (h_ih51 : ∀ a : Int32 × Int32 × Int32 × Int32 × Int64 × Int32 × z_Sg, z_pn a.2.2.2.2.2.2 = z_pn q0 → z_po (ih51 a) (fun o : (Int64 × z_Sg) => z_pn o.2 = z_pn q0)) (hq : z_pn q = z_pn q0) : z_po (k_Mo_rotated_104 ih51 x3 x4 x5 x6 x7 x9 t0 q) (fun o : (Int64 × z_Sg) => z_pn o.2 = z_pn q0) := by
  unfold k_Mo_rotated_104
  refine po_i (fun _ => ?_) (fun _ => ?_)
  ·
    refine po_b (d_f_Mo_rightBy q0 x7 t0 x4 q hq) (fun r25 h_r25 => ?_)
    exact d_k_Mo_rotated_134 q0 ih51 x3 x4 x5 x6 x9 r25.1 r25.2 h_ih51 h_r25
  ·
    refine po_b (d_f_Mo_leftBy q0 x7 t0 x4 q hq) (fun r30 h_r30 => ?_)
    exact d_k_Mo_rotated_134 q0 ih51 x3 x4 x5 x6 x9 r30.1 r30.2 h_ih51 h_r30
set_option maxHeartbeats 4000000 in
set_option maxRecDepth 100000 in
theorem m_kb_Mo_rotated_51 (q0 : z_Sg) (ih51 : Int32 × Int32 × Int32 × Int32 × Int64 × Int32 × z_Sg → Option (Int64 × z_Sg)) (x3 : Int32) (x4 : Int32) (x5 : Int32) (x6 : Int32) (x7 : Int64) (x9 : Int32) (q : z_Sg) (h_ih51 : ∀ a : Int32 × Int32 × Int32 × Int32 × Int64 × Int32 × z_Sg, z_pk a.2.2.2.2.2.2 = z_pk q0 → z_po (ih51 a) (fun o : (Int64 × z_Sg) => z_pk o.2 = z_pk q0)) (hq : z_pk q = z_pk q0) : z_po (kb_Mo_rotated_51 ih51 x3 x4 x5 x6 x7 x9 q) (fun o : (Int64 × z_Sg) => z_pk o.2 = z_pk q0) := by
  unfold kb_Mo_rotated_51
  refine po_i (fun _ => ?_) (fun _ => ?_)
  ·
    refine po_i (fun _ => ?_) (fun _ => ?_)
    ·
      refine po_i (fun _ => ?_) (fun _ => ?_)
      ·
        exact m_k_Mo_rotated_186 q0 x3 x4 x5 x7 (0 : Int32) (1 : Int32) q hq
      ·
        exact m_k_Mo_rotated_186 q0 x3 x4 x5 x7 (0 : Int32) (0 : Int32) q hq
    ·
      exact m_k_Mo_rotated_187 q0 x3 x4 x5 x7 q hq
  ·
    refine po_i (fun _ => ?_) (fun _ => ?_)
    ·
      refine po_i (fun _ => ?_) (fun _ => ?_)
      ·
        refine po_i (fun _ => ?_) (fun _ => ?_)
        ·
          exact m_k_Mo_rotated_104 q0 ih51 x3 x4 x5 x6 x7 x9 (1 : Int32) q h_ih51 hq
        ·
          exact m_k_Mo_rotated_104 q0 ih51 x3 x4 x5 x6 x7 x9 (0 : Int32) q h_ih51 hq
      ·
        refine po_b (R := fun _ => True) (fun _ _ => trivial) (fun r31 _ => ?_)
        exact m_k_Mo_rotated_104 q0 ih51 x3 x4 x5 x6 x7 x9 r31 q h_ih51 hq
    ·
      refine po_g (fun _ => ?_)
      exact m_k_Mo_rotated_104 q0 ih51 x3 x4 x5 x6 x7 x9 (z_gN q 1 (0 : Int32).toNatClampNeg) q h_ih51 hq
set_option maxHeartbeats 4000000 in
set_option maxRecDepth 100000 in
theorem d_kb_Mo_rotated_51 (q0 : z_Sg) (ih51 : Int32 × Int32 × Int32 × Int32 × Int64 × Int32 × z_Sg → Option (Int64 × z_Sg)) (x3 : Int32) (x4 : Int32) (x5 : Int32) (x6 : Int32) (x7 : Int64) (x9 : Int32) (q : z_Sg) (h_ih51 : ∀ a : Int32 × Int32 × Int32 × Int32 × Int64 × Int32 × z_Sg, z_pn a.2.2.2.2.2.2 = z_pn q0 → z_po (ih51 a) (fun o : (Int64 × z_Sg) => z_pn o.2 = z_pn q0)) (hq : z_pn q = z_pn q0) : z_po (kb_Mo_rotated_51 ih51 x3 x4 x5 x6 x7 x9 q) (fun o : (Int64 × z_Sg) => z_pn o.2 = z_pn q0) := by
  unfold kb_Mo_rotated_51
  refine po_i (fun _ => ?_) (fun _ => ?_)
  ·
    refine po_i (fun _ => ?_) (fun _ => ?_)
    ·
      refine po_i (fun _ => ?_) (fun _ => ?_)
      ·
        exact d_k_Mo_rotated_186 q0 x3 x4 x5 x7 (0 : Int32) (1 : Int32) q hq
      ·
        exact d_k_Mo_rotated_186 q0 x3 x4 x5 x7 (0 : Int32) (0 : Int32) q hq
    ·
      exact d_k_Mo_rotated_187 q0 x3 x4 x5 x7 q hq
  ·
    refine po_i (fun _ => ?_) (fun _ => ?_)
    ·
      refine po_i (fun _ => ?_) (fun _ => ?_)
      ·
        refine po_i (fun _ => ?_) (fun _ => ?_)
        ·
          exact d_k_Mo_rotated_104 q0 ih51 x3 x4 x5 x6 x7 x9 (1 : Int32) q h_ih51 hq
        ·
          exact d_k_Mo_rotated_104 q0 ih51 x3 x4 x5 x6 x7 x9 (0 : Int32) q h_ih51 hq
      ·
        refine po_b (R := fun _ => True) (fun _ _ => trivial) (fun r31 _ => ?_)
        exact d_k_Mo_rotated_104 q0 ih51 x3 x4 x5 x6 x7 x9 r31 q h_ih51 hq
    ·
      refine po_g (fun _ => ?_)
      exact d_k_Mo_rotated_104 q0 ih51 x3 x4 x5 x6 x7 x9 (z_gN q 1 (0 : Int32).toNatClampNeg) q h_ih51 hq
set_option maxHeartbeats 4000000 in
set_option maxRecDepth 100000 in
theorem m_k_Mo_rotated_51 (q0 : z_Sg) (x3 : Int32) (x4 : Int32) (x5 : Int32) (x6 : Int32) (x7 : Int64) (x9 : Int32) (q : z_Sg) (hq : z_pk q = z_pk q0) : z_po (k_Mo_rotated_51 x3 x4 x5 x6 x7 x9 q) (fun o : (Int64 × z_Sg) => z_pk o.2 = z_pk q0) := by
  unfold k_Mo_rotated_51
  exact po_l (fun a : Int32 × Int32 × Int32 × Int32 × Int64 × Int32 × z_Sg => z_pk a.2.2.2.2.2.2 = z_pk q0) (fun ih51 a ha hih => m_kb_Mo_rotated_51 q0 ih51 a.1 a.2.1 a.2.2.1 a.2.2.2.1 a.2.2.2.2.1 a.2.2.2.2.2.1 a.2.2.2.2.2.2  hih ha) _ _ hq
set_option maxHeartbeats 4000000 in
set_option maxRecDepth 100000 in
theorem d_k_Mo_rotated_51 (q0 : z_Sg) (x3 : Int32) (x4 : Int32) (x5 : Int32) (x6 : Int32) (x7 : Int64) (x9 : Int32) (q : z_Sg) (hq : z_pn q = z_pn q0) : z_po (k_Mo_rotated_51 x3 x4 x5 x6 x7 x9 q) (fun o : (Int64 × z_Sg) => z_pn o.2 = z_pn q0) := by
  unfold k_Mo_rotated_51
  exact po_l (fun a : Int32 × Int32 × Int32 × Int32 × Int64 × Int32 × z_Sg => z_pn a.2.2.2.2.2.2 = z_pn q0) (fun ih51 a ha hih => d_kb_Mo_rotated_51 q0 ih51 a.1 a.2.1 a.2.2.1 a.2.2.2.1 a.2.2.2.2.1 a.2.2.2.2.2.1 a.2.2.2.2.2.2  hih ha) _ _ hq
set_option maxHeartbeats 4000000 in
set_option maxRecDepth 100000 in
theorem m_k_Mo_rotated_43 (q0 : z_Sg) (x1 : Int64) (x3 : Int32) (x4 : Int32) (x5 : Int32) (t0 : Int32) (q : z_Sg) (hq : z_pk q = z_pk q0) : z_po (k_Mo_rotated_43 x1 x3 x4 x5 t0 q) (fun o : (Int64 × z_Sg) => z_pk o.2 = z_pk q0) := by
  unfold k_Mo_rotated_43
  exact m_k_Mo_rotated_51 q0 x3 x4 x5 t0 x1 (0 : Int32) q hq
set_option maxHeartbeats 4000000 in
set_option maxRecDepth 100000 in
theorem d_k_Mo_rotated_43 (q0 : z_Sg) (x1 : Int64) (x3 : Int32) (x4 : Int32) (x5 : Int32) (t0 : Int32) (q : z_Sg) (hq : z_pn q = z_pn q0) : z_po (k_Mo_rotated_43 x1 x3 x4 x5 t0 q) (fun o : (Int64 × z_Sg) => z_pn o.2 = z_pn q0) := by
  unfold k_Mo_rotated_43
  exact d_k_Mo_rotated_51 q0 x3 x4 x5 t0 x1 (0 : Int32) q hq
set_option maxHeartbeats 4000000 in
set_option maxRecDepth 100000 in
theorem m_k_Mo_rotated_42 (q0 : z_Sg) (x1 : Int64) (x3 : Int32) (x4 : Int32) (x5 : Int32) (q : z_Sg) (hq : z_pk q = z_pk q0) : z_po (k_Mo_rotated_42 x1 x3 x4 x5 q) (fun o : (Int64 × z_Sg) => z_pk o.2 = z_pk q0) := by
  unfold k_Mo_rotated_42
  exact m_k_Mo_rotated_43 q0 x1 x3 x4 x5 x3 q hq
set_option maxHeartbeats 4000000 in
set_option maxRecDepth 100000 in
theorem d_k_Mo_rotated_42 (q0 : z_Sg) (x1 : Int64) (x3 : Int32) (x4 : Int32) (x5 : Int32) (q : z_Sg) (hq : z_pn q = z_pn q0) : z_po (k_Mo_rotated_42 x1 x3 x4 x5 q) (fun o : (Int64 × z_Sg) => z_pn o.2 = z_pn q0) := by
  unfold k_Mo_rotated_42
  exact d_k_Mo_rotated_43 q0 x1 x3 x4 x5 x3 q hq
set_option maxHeartbeats 4000000 in
set_option maxRecDepth 100000 in
theorem m_k_Mo_rotated_14 (q0 : z_Sg) (x1 : Int64) (x3 : Int32) (x4 : Int32) (t0 : Int32) (q : z_Sg) (hq : z_pk q = z_pk q0) : z_po (k_Mo_rotated_14 x1 x3 x4 t0 q) (fun o : (Int64 × z_Sg) => z_pk o.2 = z_pk q0) := by
  unfold k_Mo_rotated_14
  refine po_i (fun _ => ?_) (fun _ => ?_)
  ·
    exact m_k_Mo_rotated_42 q0 x1 x3 x4 t0 q hq
  ·
    refine po_i (fun _ => ?_) (fun _ => ?_)
    ·
      exact m_k_Mo_rotated_42 q0 x1 x3 x4 t0 q hq
    ·
      refine po_g (fun _ => ?_)
      exact m_k_Mo_rotated_43 q0 x1 x3 x4 t0 (x3 - ((x3 / (((8 : Int32) * x4) + (1 : Int32))) * (((8 : Int32) * x4) + (1 : Int32)))) q hq
set_option maxHeartbeats 4000000 in
set_option maxRecDepth 100000 in
theorem d_k_Mo_rotated_14 (q0 : z_Sg) (x1 : Int64) (x3 : Int32) (x4 : Int32) (t0 : Int32) (q : z_Sg) (hq : z_pn q = z_pn q0) : z_po (k_Mo_rotated_14 x1 x3 x4 t0 q) (fun o : (Int64 × z_Sg) => z_pn o.2 = z_pn q0) := by
  unfold k_Mo_rotated_14
  refine po_i (fun _ => ?_) (fun _ => ?_)
  ·
    exact d_k_Mo_rotated_42 q0 x1 x3 x4 t0 q hq
  ·
    refine po_i (fun _ => ?_) (fun _ => ?_)
    ·
      exact d_k_Mo_rotated_42 q0 x1 x3 x4 t0 q hq
    ·
      refine po_g (fun _ => ?_)
      exact d_k_Mo_rotated_43 q0 x1 x3 x4 t0 (x3 - ((x3 / (((8 : Int32) * x4) + (1 : Int32))) * (((8 : Int32) * x4) + (1 : Int32)))) q hq
set_option maxHeartbeats 4000000 in
set_option maxRecDepth 100000 in
theorem m_f_Mo_rotated (q0 : z_Sg) (x1 : Int64) (x3 : Int32) (x4 : Int32) (q : z_Sg) (hq : z_pk q = z_pk q0) : z_po (f_Mo_rotated x1 x3 x4 q) (fun o : (Int64 × z_Sg) => z_pk o.2 = z_pk q0) := by
  unfold f_Mo_rotated
  refine po_i (fun _ => ?_) (fun _ => ?_)
  ·
    exact m_k_Mo_rotated_14 q0 x1 x3 x4 (1 : Int32) q hq
  ·
    exact m_k_Mo_rotated_14 q0 x1 x3 x4 (0 : Int32) q hq
set_option maxHeartbeats 4000000 in
set_option maxRecDepth 100000 in
theorem d_f_Mo_rotated (q0 : z_Sg) (x1 : Int64) (x3 : Int32) (x4 : Int32) (q : z_Sg) (hq : z_pn q = z_pn q0) : z_po (f_Mo_rotated x1 x3 x4 q) (fun o : (Int64 × z_Sg) => z_pn o.2 = z_pn q0) := by
  unfold f_Mo_rotated
  refine po_i (fun _ => ?_) (fun _ => ?_)
  ·
    exact d_k_Mo_rotated_14 q0 x1 x3 x4 (1 : Int32) q hq
  ·
    exact d_k_Mo_rotated_14 q0 x1 x3 x4 (0 : Int32) q hq
set_option maxHeartbeats 4000000 in
set_option maxRecDepth 100000 in
theorem m_k_Mo_shift_148 (q0 : z_Sg) (x2 : Int32) (x7 : Int64) (q : z_Sg) (hq : z_pk q = z_pk q0) : z_po (k_Mo_shift_148 x2 x7 q) (fun o : z_Sg => z_pk o = z_pk q0) := by
  unfold k_Mo_shift_148
  refine po_b (m_f_Mo_setE q0 x2 x7 q hq) (fun r14 h_r14 => ?_)
  exact po_s h_r14
set_option maxHeartbeats 4000000 in
set_option maxRecDepth 100000 in
theorem d_k_Mo_shift_148 (q0 : z_Sg) (x2 : Int32) (x7 : Int64) (q : z_Sg) (hq : z_pn q = z_pn q0) : z_po (k_Mo_shift_148 x2 x7 q) (fun o : z_Sg => z_pn o = z_pn q0) := by
  unfold k_Mo_shift_148
  refine po_b (d_f_Mo_setE q0 x2 x7 q hq) (fun r14 h_r14 => ?_)
  exact po_s h_r14
set_option maxHeartbeats 4000000 in
set_option maxRecDepth 100000 in
theorem m_k_Mo_shift_146 (q0 : z_Sg) (x2 : Int32) (t0 : Int64) (q : z_Sg) (hq : z_pk q = z_pk q0) : z_po (k_Mo_shift_146 x2 t0 q) (fun o : z_Sg => z_pk o = z_pk q0) := by
  unfold k_Mo_shift_146
  exact m_k_Mo_shift_148 q0 x2 t0 q hq
set_option maxHeartbeats 4000000 in
set_option maxRecDepth 100000 in
theorem d_k_Mo_shift_146 (q0 : z_Sg) (x2 : Int32) (t0 : Int64) (q : z_Sg) (hq : z_pn q = z_pn q0) : z_po (k_Mo_shift_146 x2 t0 q) (fun o : z_Sg => z_pn o = z_pn q0) := by
  unfold k_Mo_shift_146
  exact d_k_Mo_shift_148 q0 x2 t0 q hq
set_option maxHeartbeats 4000000 in
set_option maxRecDepth 100000 in
theorem m_k_Mo_shift_88 (q0 : z_Sg) (x2 : Int32) (t0 : Int32) (t1 : Int32) (q : z_Sg) (hq : z_pk q = z_pk q0) : z_po (k_Mo_shift_88 x2 t0 t1 q) (fun o : z_Sg => z_pk o = z_pk q0) := by
  unfold k_Mo_shift_88
  refine po_g (fun _ => ?_)
  refine po_n (fun n10 _ => ?_)
  refine po_b (m_f_Mo_e q0 x2 (1 : Int32) q hq) (fun r11 h_r11 => ?_)
  refine po_i (fun _ => ?_) (fun _ => ?_)
  ·
    refine po_i (fun _ => ?_) (fun _ => ?_)
    ·
      exact m_k_Mo_shift_148 q0 x2 r11.1 r11.2 h_r11
    ·
      refine po_i (fun _ => ?_) (fun _ => ?_)
      ·
        refine po_b (m_f_Mo_shifted q0 r11.1 n10 x2 r11.2 h_r11) (fun r16 h_r16 => ?_)
        exact m_k_Mo_shift_146 q0 x2 r16.1 r16.2 h_r16
      ·
        refine po_b (m_f_Mo_rotated q0 r11.1 n10 x2 r11.2 h_r11) (fun r17 h_r17 => ?_)
        exact m_k_Mo_shift_146 q0 x2 r17.1 r17.2 h_r17
  ·
    exact po_s h_r11
set_option maxHeartbeats 4000000 in
set_option maxRecDepth 100000 in
theorem d_k_Mo_shift_88 (q0 : z_Sg) (x2 : Int32) (t0 : Int32) (t1 : Int32) (q : z_Sg) (hq : z_pn q = z_pn q0) (hd : ¬ z_gI q0 4 = -1) : z_po (k_Mo_shift_88 x2 t0 t1 q) (fun o : z_Sg => z_pn o = z_pn q0) := by
  unfold k_Mo_shift_88
  refine po_g (fun _ => ?_)
  refine po_n (fun n10 _ => ?_)
  refine po_b (d_f_Mo_e q0 x2 (1 : Int32) q hq hd) (fun r11 h_r11 => ?_)
  refine po_f (pn_d h_r11 hd) ?_
  exact po_s h_r11
set_option maxHeartbeats 4000000 in
set_option maxRecDepth 100000 in
theorem m_k_Mo_shift_59 (q0 : z_Sg) (x2 : Int32) (t0 : Int32) (q : z_Sg) (hq : z_pk q = z_pk q0) : z_po (k_Mo_shift_59 x2 t0 q) (fun o : z_Sg => z_pk o = z_pk q0) := by
  unfold k_Mo_shift_59
  refine po_n (fun q7 e_q7 => ?_)
  have h_q7 : z_pk q7 = z_pk q0 := by rw [e_q7]; exact hq
  refine po_i (fun _ => ?_) (fun _ => ?_)
  ·
    exact m_k_Mo_shift_88 q0 x2 t0 (64 : Int32) q7 h_q7
  ·
    exact m_k_Mo_shift_88 q0 x2 t0 (32 : Int32) q7 h_q7
set_option maxHeartbeats 4000000 in
set_option maxRecDepth 100000 in
theorem d_k_Mo_shift_59 (q0 : z_Sg) (x2 : Int32) (t0 : Int32) (q : z_Sg) (hq : z_pn q = z_pn q0) (hd : ¬ z_gI q0 4 = -1) : z_po (k_Mo_shift_59 x2 t0 q) (fun o : z_Sg => z_pn o = z_pn q0) := by
  unfold k_Mo_shift_59
  refine po_n (fun q7 e_q7 => ?_)
  have h_q7 : z_pn q7 = z_pn q0 := by rw [e_q7]; exact hq
  refine po_i (fun _ => ?_) (fun _ => ?_)
  ·
    exact d_k_Mo_shift_88 q0 x2 t0 (64 : Int32) q7 h_q7 hd
  ·
    exact d_k_Mo_shift_88 q0 x2 t0 (32 : Int32) q7 h_q7 hd
set_option maxHeartbeats 4000000 in
set_option maxRecDepth 100000 in
theorem m_k_Mo_shift_19 (q0 : z_Sg) (x1 : Int32) (x2 : Int32) (q : z_Sg) (hq : z_pk q = z_pk q0) : z_po (k_Mo_shift_19 x1 x2 q) (fun o : z_Sg => z_pk o = z_pk q0) := by
  unfold k_Mo_shift_19
  refine po_b (m_f_Mo_takePlace q0 q hq) (fun r3 h_r3 => ?_)
  refine po_i (fun _ => ?_) (fun _ => ?_)
  ·
    refine po_i (fun _ => ?_) (fun _ => ?_)
    ·
      refine po_g (fun _ => ?_)
      exact m_k_Mo_shift_59 q0 x2 ((z_gM r3 0 (1 : Int32).toNatClampNeg) &&& (255 : Int64)).toInt32 r3 h_r3
    ·
      exact m_k_Mo_shift_59 q0 x2 (1 : Int32) r3 h_r3
  ·
    refine po_b (m_f_Mo_fetch q0 r3 h_r3) (fun r18 h_r18 => ?_)
    exact m_k_Mo_shift_59 q0 x2 r18.1 r18.2 h_r18
set_option maxHeartbeats 4000000 in
set_option maxRecDepth 100000 in
theorem d_k_Mo_shift_19 (q0 : z_Sg) (x1 : Int32) (x2 : Int32) (q : z_Sg) (hq : z_pn q = z_pn q0) (hd : ¬ z_gI q0 4 = -1) : z_po (k_Mo_shift_19 x1 x2 q) (fun o : z_Sg => z_pn o = z_pn q0) := by
  unfold k_Mo_shift_19
  refine po_b (d_f_Mo_takePlace q0 q hq hd) (fun r3 h_r3 => ?_)
  refine po_i (fun _ => ?_) (fun _ => ?_)
  ·
    refine po_i (fun _ => ?_) (fun _ => ?_)
    ·
      refine po_g (fun _ => ?_)
      exact d_k_Mo_shift_59 q0 x2 ((z_gM r3 0 (1 : Int32).toNatClampNeg) &&& (255 : Int64)).toInt32 r3 h_r3 hd
    ·
      exact d_k_Mo_shift_59 q0 x2 (1 : Int32) r3 h_r3 hd
  ·
    refine po_b (d_f_Mo_fetch q0 r3 h_r3 hd) (fun r18 h_r18 => ?_)
    exact d_k_Mo_shift_59 q0 x2 r18.1 r18.2 h_r18 hd
set_option maxHeartbeats 4000000 in
set_option maxRecDepth 100000 in
theorem m_f_Mo_shift (q0 : z_Sg) (x1 : Int32) (x2 : Int32) (q : z_Sg) (hq : z_pk q = z_pk q0) : z_po (f_Mo_shift x1 x2 q) (fun o : z_Sg => z_pk o = z_pk q0) := by
  unfold f_Mo_shift
  refine po_b (m_f_Mo_takeMod q0 q hq) (fun r1 h_r1 => ?_)
  refine po_i (fun _ => ?_) (fun _ => ?_)
  ·
    refine po_b (m_f_Mo_refuse q0 (6 : Int32) r1 h_r1) (fun r19 h_r19 => ?_)
    exact m_k_Mo_shift_19 q0 x1 x2 r19 h_r19
  ·
    exact m_k_Mo_shift_19 q0 x1 x2 r1 h_r1
set_option maxHeartbeats 4000000 in
set_option maxRecDepth 100000 in
theorem d_f_Mo_shift (q0 : z_Sg) (x1 : Int32) (x2 : Int32) (q : z_Sg) (hq : z_pn q = z_pn q0) (hd : ¬ z_gI q0 4 = -1) : z_po (f_Mo_shift x1 x2 q) (fun o : z_Sg => z_pn o = z_pn q0) := by
  unfold f_Mo_shift
  refine po_b (d_f_Mo_takeMod q0 q hq hd) (fun r1 h_r1 => ?_)
  refine po_i (fun _ => ?_) (fun _ => ?_)
  ·
    refine po_b (d_f_Mo_refuse q0 (6 : Int32) r1 h_r1 hd) (fun r19 h_r19 => ?_)
    exact d_k_Mo_shift_19 q0 x1 x2 r19 h_r19 hd
  ·
    exact d_k_Mo_shift_19 q0 x1 x2 r1 h_r1 hd
set_option maxHeartbeats 4000000 in
set_option maxRecDepth 100000 in
theorem m_k_Mo_quotient_180 (q0 : z_Sg) (t0 : Int32) (q : z_Sg) (hq : z_pk q = z_pk q0) : z_po (k_Mo_quotient_180 t0 q) (fun o : (Int32 × z_Sg) => z_pk o.2 = z_pk q0) := by
  unfold k_Mo_quotient_180
  refine po_G (fun _ => ?_)
  exact po_s hq
set_option maxHeartbeats 4000000 in
set_option maxRecDepth 100000 in
theorem d_k_Mo_quotient_180 (q0 : z_Sg) (t0 : Int32) (q : z_Sg) (hq : z_pn q = z_pn q0) : z_po (k_Mo_quotient_180 t0 q) (fun o : (Int32 × z_Sg) => z_pn o.2 = z_pn q0) := by
  unfold k_Mo_quotient_180
  refine po_G (fun _ => ?_)
  exact po_s hq
set_option maxHeartbeats 4000000 in
set_option maxRecDepth 100000 in
theorem m_k_Mo_quotient_179 (q0 : z_Sg) (q : z_Sg) (hq : z_pk q = z_pk q0) : z_po (k_Mo_quotient_179 q) (fun o : (Int32 × z_Sg) => z_pk o.2 = z_pk q0) := by
  unfold k_Mo_quotient_179
  exact m_k_Mo_quotient_180 q0 (0 : Int32) q hq
set_option maxHeartbeats 4000000 in
set_option maxRecDepth 100000 in
theorem d_k_Mo_quotient_179 (q0 : z_Sg) (q : z_Sg) (hq : z_pn q = z_pn q0) : z_po (k_Mo_quotient_179 q) (fun o : (Int32 × z_Sg) => z_pn o.2 = z_pn q0) := by
  unfold k_Mo_quotient_179
  exact d_k_Mo_quotient_180 q0 (0 : Int32) q hq
set_option maxHeartbeats 4000000 in
set_option maxRecDepth 100000 in
theorem m_k_Mo_quotient_175 (q0 : z_Sg) (q : z_Sg) (hq : z_pk q = z_pk q0) : z_po (k_Mo_quotient_175 q) (fun o : (Int32 × z_Sg) => z_pk o.2 = z_pk q0) := by
  unfold k_Mo_quotient_175
  exact m_k_Mo_quotient_180 q0 (1 : Int32) q hq
set_option maxHeartbeats 4000000 in
set_option maxRecDepth 100000 in
theorem d_k_Mo_quotient_175 (q0 : z_Sg) (q : z_Sg) (hq : z_pn q = z_pn q0) : z_po (k_Mo_quotient_175 q) (fun o : (Int32 × z_Sg) => z_pn o.2 = z_pn q0) := by
  unfold k_Mo_quotient_175
  exact d_k_Mo_quotient_180 q0 (1 : Int32) q hq
set_option maxHeartbeats 4000000 in
set_option maxRecDepth 100000 in
theorem m_k_Mo_quotient_132 (q0 : z_Sg) (ih13 : Int64 × Int32 × Int64 × Int64 × Int64 × Int32 × z_Sg → Option (Int32 × z_Sg)) (x1 : Int64) (x3 : Int32) (x4 : Int64) (x6 : Int64) (x10 : Int32) (t0 : Int64) (t1 : Int64) (q : z_Sg) (h_ih13 : ∀ a : Int64 × Int32 × Int64 × Int64 × Int64 × Int32 × z_Sg, z_pk a.2.2.2.2.2.2 = z_pk q0 → z_po (ih13 a) (fun o : (Int32 × z_Sg) => z_pk o.2 = z_pk q0)) (hq : z_pk q = z_pk q0) : z_po (k_Mo_quotient_132 ih13 x1 x3 x4 x6 x10 t0 t1 q) (fun o : (Int32 × z_Sg) => z_pk o.2 = z_pk q0) := by
  unfold k_Mo_quotient_132
  refine po_n (fun n15 _ => ?_)
  refine po_n (fun n16 _ => ?_)
  exact h_ih13 _ hq
set_option maxHeartbeats 4000000 in
set_option maxRecDepth 100000 in
theorem d_k_Mo_quotient_132 (q0 : z_Sg) (ih13 : Int64 × Int32 × Int64 × Int64 × Int64 × Int32 × z_Sg → Option (Int32 × z_Sg)) (x1 : Int64) (x3 : Int32) (x4 : Int64) (x6 : Int64) (x10 : Int32) (t0 : Int64) (t1 : Int64) (q : z_Sg) (h_ih13 : ∀ a : Int64 × Int32 × Int64 × Int64 × Int64 × Int32 × z_Sg, z_pn a.2.2.2.2.2.2 = z_pn q0 → z_po (ih13 a) (fun o : (Int32 × z_Sg) => z_pn o.2 = z_pn q0)) (hq : z_pn q = z_pn q0) : z_po (k_Mo_quotient_132 ih13 x1 x3 x4 x6 x10 t0 t1 q) (fun o : (Int32 × z_Sg) => z_pn o.2 = z_pn q0) := by
  unfold k_Mo_quotient_132
  refine po_n (fun n15 _ => ?_)
  refine po_n (fun n16 _ => ?_)
  exact h_ih13 _ hq
set_option maxHeartbeats 4000000 in
set_option maxRecDepth 100000 in
theorem m_k_Mo_quotient_106 (q0 : z_Sg) (ih13 : Int64 × Int32 × Int64 × Int64 × Int64 × Int32 × z_Sg → Option (Int32 × z_Sg)) (x1 : Int64) (x3 : Int32) (x4 : Int64) (x6 : Int64) (x8 : Int64) (x10 : Int32) (x12 : Int32) (q : z_Sg) (h_ih13 : ∀ a : Int64 × Int32 × Int64 × Int64 × Int64 × Int32 × z_Sg, z_pk a.2.2.2.2.2.2 = z_pk q0 → z_po (ih13 a) (fun o : (Int32 × z_Sg) => z_pk o.2 = z_pk q0)) (hq : z_pk q = z_pk q0) : z_po (k_Mo_quotient_106 ih13 x1 x3 x4 x6 x8 x10 x12 q) (fun o : (Int32 × z_Sg) => z_pk o.2 = z_pk q0) := by
  unfold k_Mo_quotient_106
  refine po_n (fun n13 _ => ?_)
  refine po_i (fun _ => ?_) (fun _ => ?_)
  ·
    exact m_k_Mo_quotient_132 q0 ih13 x1 x3 x4 n13 x10 (z_lshl x8 (1 : Int32)) (0 : Int64) q h_ih13 hq
  ·
    exact m_k_Mo_quotient_132 q0 ih13 x1 x3 x4 n13 x10 (z_lshl x8 (1 : Int32)) (1 : Int64) q h_ih13 hq
set_option maxHeartbeats 4000000 in
set_option maxRecDepth 100000 in
theorem d_k_Mo_quotient_106 (q0 : z_Sg) (ih13 : Int64 × Int32 × Int64 × Int64 × Int64 × Int32 × z_Sg → Option (Int32 × z_Sg)) (x1 : Int64) (x3 : Int32) (x4 : Int64) (x6 : Int64) (x8 : Int64) (x10 : Int32) (x12 : Int32) (q : z_Sg) (h_ih13 : ∀ a : Int64 × Int32 × Int64 × Int64 × Int64 × Int32 × z_Sg, z_pn a.2.2.2.2.2.2 = z_pn q0 → z_po (ih13 a) (fun o : (Int32 × z_Sg) => z_pn o.2 = z_pn q0)) (hq : z_pn q = z_pn q0) : z_po (k_Mo_quotient_106 ih13 x1 x3 x4 x6 x8 x10 x12 q) (fun o : (Int32 × z_Sg) => z_pn o.2 = z_pn q0) := by
  unfold k_Mo_quotient_106
  refine po_n (fun n13 _ => ?_)
  refine po_i (fun _ => ?_) (fun _ => ?_)
  ·
    exact d_k_Mo_quotient_132 q0 ih13 x1 x3 x4 n13 x10 (z_lshl x8 (1 : Int32)) (0 : Int64) q h_ih13 hq
  ·
    exact d_k_Mo_quotient_132 q0 ih13 x1 x3 x4 n13 x10 (z_lshl x8 (1 : Int32)) (1 : Int64) q h_ih13 hq
set_option maxHeartbeats 4000000 in
set_option maxRecDepth 100000 in
theorem m_k_Mo_quotient_93 (q0 : z_Sg) (ih13 : Int64 × Int32 × Int64 × Int64 × Int64 × Int32 × z_Sg → Option (Int32 × z_Sg)) (x1 : Int64) (x3 : Int32) (x4 : Int64) (x6 : Int64) (x8 : Int64) (x10 : Int32) (t0 : Int32) (q : z_Sg) (h_ih13 : ∀ a : Int64 × Int32 × Int64 × Int64 × Int64 × Int32 × z_Sg, z_pk a.2.2.2.2.2.2 = z_pk q0 → z_po (ih13 a) (fun o : (Int32 × z_Sg) => z_pk o.2 = z_pk q0)) (hq : z_pk q = z_pk q0) : z_po (k_Mo_quotient_93 ih13 x1 x3 x4 x6 x8 x10 t0 q) (fun o : (Int32 × z_Sg) => z_pk o.2 = z_pk q0) := by
  unfold k_Mo_quotient_93
  refine po_i (fun _ => ?_) (fun _ => ?_)
  ·
    exact m_k_Mo_quotient_106 q0 ih13 x1 x3 x4 x6 x8 x10 t0 q h_ih13 hq
  ·
    refine po_n (fun n17 _ => ?_)
    exact m_k_Mo_quotient_106 q0 ih13 x1 x3 n17 x6 x8 x10 t0 q h_ih13 hq
set_option maxHeartbeats 4000000 in
set_option maxRecDepth 100000 in
theorem d_k_Mo_quotient_93 (q0 : z_Sg) (ih13 : Int64 × Int32 × Int64 × Int64 × Int64 × Int32 × z_Sg → Option (Int32 × z_Sg)) (x1 : Int64) (x3 : Int32) (x4 : Int64) (x6 : Int64) (x8 : Int64) (x10 : Int32) (t0 : Int32) (q : z_Sg) (h_ih13 : ∀ a : Int64 × Int32 × Int64 × Int64 × Int64 × Int32 × z_Sg, z_pn a.2.2.2.2.2.2 = z_pn q0 → z_po (ih13 a) (fun o : (Int32 × z_Sg) => z_pn o.2 = z_pn q0)) (hq : z_pn q = z_pn q0) : z_po (k_Mo_quotient_93 ih13 x1 x3 x4 x6 x8 x10 t0 q) (fun o : (Int32 × z_Sg) => z_pn o.2 = z_pn q0) := by
  unfold k_Mo_quotient_93
  refine po_i (fun _ => ?_) (fun _ => ?_)
  ·
    exact d_k_Mo_quotient_106 q0 ih13 x1 x3 x4 x6 x8 x10 t0 q h_ih13 hq
  ·
    refine po_n (fun n17 _ => ?_)
    exact d_k_Mo_quotient_106 q0 ih13 x1 x3 n17 x6 x8 x10 t0 q h_ih13 hq
set_option maxHeartbeats 4000000 in
set_option maxRecDepth 100000 in
theorem m_k_Mo_quotient_88 (q0 : z_Sg) (ih13 : Int64 × Int32 × Int64 × Int64 × Int64 × Int32 × z_Sg → Option (Int32 × z_Sg)) (x1 : Int64) (x3 : Int32) (x4 : Int64) (x6 : Int64) (x8 : Int64) (x10 : Int32) (q : z_Sg) (h_ih13 : ∀ a : Int64 × Int32 × Int64 × Int64 × Int64 × Int32 × z_Sg, z_pk a.2.2.2.2.2.2 = z_pk q0 → z_po (ih13 a) (fun o : (Int32 × z_Sg) => z_pk o.2 = z_pk q0)) (hq : z_pk q = z_pk q0) : z_po (k_Mo_quotient_88 ih13 x1 x3 x4 x6 x8 x10 q) (fun o : (Int32 × z_Sg) => z_pk o.2 = z_pk q0) := by
  unfold k_Mo_quotient_88
  exact m_k_Mo_quotient_93 q0 ih13 x1 x3 x4 x6 x8 x10 (1 : Int32) q h_ih13 hq
set_option maxHeartbeats 4000000 in
set_option maxRecDepth 100000 in
theorem d_k_Mo_quotient_88 (q0 : z_Sg) (ih13 : Int64 × Int32 × Int64 × Int64 × Int64 × Int32 × z_Sg → Option (Int32 × z_Sg)) (x1 : Int64) (x3 : Int32) (x4 : Int64) (x6 : Int64) (x8 : Int64) (x10 : Int32) (q : z_Sg) (h_ih13 : ∀ a : Int64 × Int32 × Int64 × Int64 × Int64 × Int32 × z_Sg, z_pn a.2.2.2.2.2.2 = z_pn q0 → z_po (ih13 a) (fun o : (Int32 × z_Sg) => z_pn o.2 = z_pn q0)) (hq : z_pn q = z_pn q0) : z_po (k_Mo_quotient_88 ih13 x1 x3 x4 x6 x8 x10 q) (fun o : (Int32 × z_Sg) => z_pn o.2 = z_pn q0) := by
  unfold k_Mo_quotient_88
  exact d_k_Mo_quotient_93 q0 ih13 x1 x3 x4 x6 x8 x10 (1 : Int32) q h_ih13 hq
set_option maxHeartbeats 4000000 in
set_option maxRecDepth 100000 in
theorem m_k_Mo_quotient_63 (q0 : z_Sg) (ih13 : Int64 × Int32 × Int64 × Int64 × Int64 × Int32 × z_Sg → Option (Int32 × z_Sg)) (x1 : Int64) (x3 : Int32) (x6 : Int64) (x8 : Int64) (x10 : Int32) (x11 : Int32) (t0 : Int64) (t1 : Int64) (q : z_Sg) (h_ih13 : ∀ a : Int64 × Int32 × Int64 × Int64 × Int64 × Int32 × z_Sg, z_pk a.2.2.2.2.2.2 = z_pk q0 → z_po (ih13 a) (fun o : (Int32 × z_Sg) => z_pk o.2 = z_pk q0)) (hq : z_pk q = z_pk q0) : z_po (k_Mo_quotient_63 ih13 x1 x3 x6 x8 x10 x11 t0 t1 q) (fun o : (Int32 × z_Sg) => z_pk o.2 = z_pk q0) := by
  unfold k_Mo_quotient_63
  refine po_n (fun n10 _ => ?_)
  refine po_i (fun _ => ?_) (fun _ => ?_)
  ·
    refine po_i (fun _ => ?_) (fun _ => ?_)
    ·
      exact m_k_Mo_quotient_93 q0 ih13 x1 x3 n10 x6 x8 x10 (0 : Int32) q h_ih13 hq
    ·
      exact m_k_Mo_quotient_88 q0 ih13 x1 x3 n10 x6 x8 x10 q h_ih13 hq
  ·
    exact m_k_Mo_quotient_88 q0 ih13 x1 x3 n10 x6 x8 x10 q h_ih13 hq
set_option maxHeartbeats 4000000 in
set_option maxRecDepth 100000 in
theorem d_k_Mo_quotient_63 (q0 : z_Sg) (ih13 : Int64 × Int32 × Int64 × Int64 × Int64 × Int32 × z_Sg → Option (Int32 × z_Sg)) (x1 : Int64) (x3 : Int32) (x6 : Int64) (x8 : Int64) (x10 : Int32) (x11 : Int32) (t0 : Int64) (t1 : Int64) (q : z_Sg) (h_ih13 : ∀ a : Int64 × Int32 × Int64 × Int64 × Int64 × Int32 × z_Sg, z_pn a.2.2.2.2.2.2 = z_pn q0 → z_po (ih13 a) (fun o : (Int32 × z_Sg) => z_pn o.2 = z_pn q0)) (hq : z_pn q = z_pn q0) : z_po (k_Mo_quotient_63 ih13 x1 x3 x6 x8 x10 x11 t0 t1 q) (fun o : (Int32 × z_Sg) => z_pn o.2 = z_pn q0) := by
  unfold k_Mo_quotient_63
  refine po_n (fun n10 _ => ?_)
  refine po_i (fun _ => ?_) (fun _ => ?_)
  ·
    refine po_i (fun _ => ?_) (fun _ => ?_)
    ·
      exact d_k_Mo_quotient_93 q0 ih13 x1 x3 n10 x6 x8 x10 (0 : Int32) q h_ih13 hq
    ·
      exact d_k_Mo_quotient_88 q0 ih13 x1 x3 n10 x6 x8 x10 q h_ih13 hq
  ·
    exact d_k_Mo_quotient_88 q0 ih13 x1 x3 n10 x6 x8 x10 q h_ih13 hq
set_option maxHeartbeats 4000000 in
set_option maxRecDepth 100000 in
theorem m_k_Mo_quotient_30 (q0 : z_Sg) (ih13 : Int64 × Int32 × Int64 × Int64 × Int64 × Int32 × z_Sg → Option (Int32 × z_Sg)) (x1 : Int64) (x3 : Int32) (x4 : Int64) (x6 : Int64) (x8 : Int64) (x10 : Int32) (t0 : Int32) (q : z_Sg) (h_ih13 : ∀ a : Int64 × Int32 × Int64 × Int64 × Int64 × Int32 × z_Sg, z_pk a.2.2.2.2.2.2 = z_pk q0 → z_po (ih13 a) (fun o : (Int32 × z_Sg) => z_pk o.2 = z_pk q0)) (hq : z_pk q = z_pk q0) : z_po (k_Mo_quotient_30 ih13 x1 x3 x4 x6 x8 x10 t0 q) (fun o : (Int32 × z_Sg) => z_pk o.2 = z_pk q0) := by
  unfold k_Mo_quotient_30
  refine po_i (fun _ => ?_) (fun _ => ?_)
  ·
    exact m_k_Mo_quotient_63 q0 ih13 x1 x3 x6 x8 x10 t0 (z_lshl x4 (1 : Int32)) (z_lushr (z_gL q 8) x10) q h_ih13 hq
  ·
    exact m_k_Mo_quotient_63 q0 ih13 x1 x3 x6 x8 x10 t0 (z_lshl x4 (1 : Int32)) (z_lushr (z_gL q 9) (x10 - (64 : Int32))) q h_ih13 hq
set_option maxHeartbeats 4000000 in
set_option maxRecDepth 100000 in
theorem d_k_Mo_quotient_30 (q0 : z_Sg) (ih13 : Int64 × Int32 × Int64 × Int64 × Int64 × Int32 × z_Sg → Option (Int32 × z_Sg)) (x1 : Int64) (x3 : Int32) (x4 : Int64) (x6 : Int64) (x8 : Int64) (x10 : Int32) (t0 : Int32) (q : z_Sg) (h_ih13 : ∀ a : Int64 × Int32 × Int64 × Int64 × Int64 × Int32 × z_Sg, z_pn a.2.2.2.2.2.2 = z_pn q0 → z_po (ih13 a) (fun o : (Int32 × z_Sg) => z_pn o.2 = z_pn q0)) (hq : z_pn q = z_pn q0) : z_po (k_Mo_quotient_30 ih13 x1 x3 x4 x6 x8 x10 t0 q) (fun o : (Int32 × z_Sg) => z_pn o.2 = z_pn q0) := by
  unfold k_Mo_quotient_30
  refine po_i (fun _ => ?_) (fun _ => ?_)
  ·
    exact d_k_Mo_quotient_63 q0 ih13 x1 x3 x6 x8 x10 t0 (z_lshl x4 (1 : Int32)) (z_lushr (z_gL q 8) x10) q h_ih13 hq
  ·
    exact d_k_Mo_quotient_63 q0 ih13 x1 x3 x6 x8 x10 t0 (z_lshl x4 (1 : Int32)) (z_lushr (z_gL q 9) (x10 - (64 : Int32))) q h_ih13 hq
set_option maxHeartbeats 4000000 in
set_option maxRecDepth 100000 in
theorem m_kb_Mo_quotient_13 (q0 : z_Sg) (ih13 : Int64 × Int32 × Int64 × Int64 × Int64 × Int32 × z_Sg → Option (Int32 × z_Sg)) (x1 : Int64) (x3 : Int32) (x4 : Int64) (x6 : Int64) (x8 : Int64) (x10 : Int32) (q : z_Sg) (h_ih13 : ∀ a : Int64 × Int32 × Int64 × Int64 × Int64 × Int32 × z_Sg, z_pk a.2.2.2.2.2.2 = z_pk q0 → z_po (ih13 a) (fun o : (Int32 × z_Sg) => z_pk o.2 = z_pk q0)) (hq : z_pk q = z_pk q0) : z_po (kb_Mo_quotient_13 ih13 x1 x3 x4 x6 x8 x10 q) (fun o : (Int32 × z_Sg) => z_pk o.2 = z_pk q0) := by
  unfold kb_Mo_quotient_13
  refine po_i (fun _ => ?_) (fun _ => ?_)
  ·
    refine po_n (fun q2 e_q2 => ?_)
    have h_q2 : z_pk q2 = z_pk q0 := by rw [e_q2]; exact hq
    refine po_n (fun q3 e_q3 => ?_)
    have h_q3 : z_pk q3 = z_pk q0 := by rw [e_q3]; exact h_q2
    refine po_i (fun _ => ?_) (fun _ => ?_)
    ·
      refine po_i (fun _ => ?_) (fun _ => ?_)
      ·
        exact m_k_Mo_quotient_175 q0 q3 h_q3
      ·
        refine po_i (fun _ => ?_) (fun _ => ?_)
        ·
          exact m_k_Mo_quotient_175 q0 q3 h_q3
        ·
          exact m_k_Mo_quotient_179 q0 q3 h_q3
    ·
      exact m_k_Mo_quotient_179 q0 q3 h_q3
  ·
    refine po_i (fun _ => ?_) (fun _ => ?_)
    ·
      exact m_k_Mo_quotient_30 q0 ih13 x1 x3 x4 x6 x8 x10 (0 : Int32) q h_ih13 hq
    ·
      exact m_k_Mo_quotient_30 q0 ih13 x1 x3 x4 x6 x8 x10 (1 : Int32) q h_ih13 hq
set_option maxHeartbeats 4000000 in
set_option maxRecDepth 100000 in
theorem d_kb_Mo_quotient_13 (q0 : z_Sg) (ih13 : Int64 × Int32 × Int64 × Int64 × Int64 × Int32 × z_Sg → Option (Int32 × z_Sg)) (x1 : Int64) (x3 : Int32) (x4 : Int64) (x6 : Int64) (x8 : Int64) (x10 : Int32) (q : z_Sg) (h_ih13 : ∀ a : Int64 × Int32 × Int64 × Int64 × Int64 × Int32 × z_Sg, z_pn a.2.2.2.2.2.2 = z_pn q0 → z_po (ih13 a) (fun o : (Int32 × z_Sg) => z_pn o.2 = z_pn q0)) (hq : z_pn q = z_pn q0) : z_po (kb_Mo_quotient_13 ih13 x1 x3 x4 x6 x8 x10 q) (fun o : (Int32 × z_Sg) => z_pn o.2 = z_pn q0) := by
  unfold kb_Mo_quotient_13
  refine po_i (fun _ => ?_) (fun _ => ?_)
  ·
    refine po_n (fun q2 e_q2 => ?_)
    have h_q2 : z_pn q2 = z_pn q0 := by rw [e_q2]; exact hq
    refine po_n (fun q3 e_q3 => ?_)
    have h_q3 : z_pn q3 = z_pn q0 := by rw [e_q3]; exact h_q2
    refine po_i (fun _ => ?_) (fun _ => ?_)
    ·
      refine po_i (fun _ => ?_) (fun _ => ?_)
      ·
        exact d_k_Mo_quotient_175 q0 q3 h_q3
      ·
        refine po_i (fun _ => ?_) (fun _ => ?_)
        ·
          exact d_k_Mo_quotient_175 q0 q3 h_q3
        ·
          exact d_k_Mo_quotient_179 q0 q3 h_q3
    ·
      exact d_k_Mo_quotient_179 q0 q3 h_q3
  ·
    refine po_i (fun _ => ?_) (fun _ => ?_)
    ·
      exact d_k_Mo_quotient_30 q0 ih13 x1 x3 x4 x6 x8 x10 (0 : Int32) q h_ih13 hq
    ·
      exact d_k_Mo_quotient_30 q0 ih13 x1 x3 x4 x6 x8 x10 (1 : Int32) q h_ih13 hq
set_option maxHeartbeats 4000000 in
set_option maxRecDepth 100000 in
theorem m_k_Mo_quotient_13 (q0 : z_Sg) (x1 : Int64) (x3 : Int32) (x4 : Int64) (x6 : Int64) (x8 : Int64) (x10 : Int32) (q : z_Sg) (hq : z_pk q = z_pk q0) : z_po (k_Mo_quotient_13 x1 x3 x4 x6 x8 x10 q) (fun o : (Int32 × z_Sg) => z_pk o.2 = z_pk q0) := by
  unfold k_Mo_quotient_13
  exact po_l (fun a : Int64 × Int32 × Int64 × Int64 × Int64 × Int32 × z_Sg => z_pk a.2.2.2.2.2.2 = z_pk q0) (fun ih13 a ha hih => m_kb_Mo_quotient_13 q0 ih13 a.1 a.2.1 a.2.2.1 a.2.2.2.1 a.2.2.2.2.1 a.2.2.2.2.2.1 a.2.2.2.2.2.2  hih ha) _ _ hq
set_option maxHeartbeats 4000000 in
set_option maxRecDepth 100000 in
theorem d_k_Mo_quotient_13 (q0 : z_Sg) (x1 : Int64) (x3 : Int32) (x4 : Int64) (x6 : Int64) (x8 : Int64) (x10 : Int32) (q : z_Sg) (hq : z_pn q = z_pn q0) : z_po (k_Mo_quotient_13 x1 x3 x4 x6 x8 x10 q) (fun o : (Int32 × z_Sg) => z_pn o.2 = z_pn q0) := by
  unfold k_Mo_quotient_13
  exact po_l (fun a : Int64 × Int32 × Int64 × Int64 × Int64 × Int32 × z_Sg => z_pn a.2.2.2.2.2.2 = z_pn q0) (fun ih13 a ha hih => d_kb_Mo_quotient_13 q0 ih13 a.1 a.2.1 a.2.2.1 a.2.2.2.1 a.2.2.2.2.1 a.2.2.2.2.2.1 a.2.2.2.2.2.2  hih ha) _ _ hq
set_option maxHeartbeats 4000000 in
set_option maxRecDepth 100000 in
theorem m_f_Mo_quotient (q0 : z_Sg) (x1 : Int64) (x3 : Int32) (q : z_Sg) (hq : z_pk q = z_pk q0) : z_po (f_Mo_quotient x1 x3 q) (fun o : (Int32 × z_Sg) => z_pk o.2 = z_pk q0) := by
  unfold f_Mo_quotient
  exact m_k_Mo_quotient_13 q0 x1 x3 (0 : Int64) (0 : Int64) (0 : Int64) (127 : Int32) q hq
set_option maxHeartbeats 4000000 in
set_option maxRecDepth 100000 in
theorem d_f_Mo_quotient (q0 : z_Sg) (x1 : Int64) (x3 : Int32) (q : z_Sg) (hq : z_pn q = z_pn q0) : z_po (f_Mo_quotient x1 x3 q) (fun o : (Int32 × z_Sg) => z_pn o.2 = z_pn q0) := by
  unfold f_Mo_quotient
  exact d_k_Mo_quotient_13 q0 x1 x3 (0 : Int64) (0 : Int64) (0 : Int64) (127 : Int32) q hq
set_option maxHeartbeats 4000000 in
set_option maxRecDepth 100000 in
theorem m_k_Mo_turnSign_32 (q0 : z_Sg) (t1 : Int64) (t2 : Int64) (q : z_Sg) (hq : z_pk q = z_pk q0) : z_po (k_Mo_turnSign_32 t1 t2 q) (fun o : z_Sg => z_pk o = z_pk q0) := by
  unfold k_Mo_turnSign_32
  refine po_n (fun q3 e_q3 => ?_)
  have h_q3 : z_pk q3 = z_pk q0 := by rw [e_q3]; exact hq
  exact po_s h_q3
set_option maxHeartbeats 4000000 in
set_option maxRecDepth 100000 in
theorem d_k_Mo_turnSign_32 (q0 : z_Sg) (t1 : Int64) (t2 : Int64) (q : z_Sg) (hq : z_pn q = z_pn q0) : z_po (k_Mo_turnSign_32 t1 t2 q) (fun o : z_Sg => z_pn o = z_pn q0) := by
  unfold k_Mo_turnSign_32
  refine po_n (fun q3 e_q3 => ?_)
  have h_q3 : z_pn q3 = z_pn q0 := by rw [e_q3]; exact hq
  exact po_s h_q3
set_option maxHeartbeats 4000000 in
set_option maxRecDepth 100000 in
theorem m_f_Mo_turnSign (q0 : z_Sg) (q : z_Sg) (hq : z_pk q = z_pk q0) : z_po (f_Mo_turnSign q) (fun o : z_Sg => z_pk o = z_pk q0) := by
  unfold f_Mo_turnSign
  refine po_n (fun q1 e_q1 => ?_)
  have h_q1 : z_pk q1 = z_pk q0 := by rw [e_q1]; exact hq
  refine po_i (fun _ => ?_) (fun _ => ?_)
  ·
    exact m_k_Mo_turnSign_32 q0 ((z_gL q1 9) ^^^ (-1 : Int64)) (1 : Int64) q1 h_q1
  ·
    exact m_k_Mo_turnSign_32 q0 ((z_gL q1 9) ^^^ (-1 : Int64)) (0 : Int64) q1 h_q1
set_option maxHeartbeats 4000000 in
set_option maxRecDepth 100000 in
theorem d_f_Mo_turnSign (q0 : z_Sg) (q : z_Sg) (hq : z_pn q = z_pn q0) : z_po (f_Mo_turnSign q) (fun o : z_Sg => z_pn o = z_pn q0) := by
  unfold f_Mo_turnSign
  refine po_n (fun q1 e_q1 => ?_)
  have h_q1 : z_pn q1 = z_pn q0 := by rw [e_q1]; exact hq
  refine po_i (fun _ => ?_) (fun _ => ?_)
  ·
    exact d_k_Mo_turnSign_32 q0 ((z_gL q1 9) ^^^ (-1 : Int64)) (1 : Int64) q1 h_q1
  ·
    exact d_k_Mo_turnSign_32 q0 ((z_gL q1 9) ^^^ (-1 : Int64)) (0 : Int64) q1 h_q1
set_option maxHeartbeats 4000000 in
set_option maxRecDepth 100000 in
theorem m_k_Mo_divide_474 (q0 : z_Sg) (ih455 : Int32 × z_Sg → Option z_Sg) (x21 : Int32) (q : z_Sg) (h_ih455 : ∀ a : Int32 × z_Sg, z_pk a.2 = z_pk q0 → z_po (ih455 a) (fun o : z_Sg => z_pk o = z_pk q0)) (hq : z_pk q = z_pk q0) : z_po (k_Mo_divide_474 ih455 x21 q) (fun o : z_Sg => z_pk o = z_pk q0) := by
  unfold k_Mo_divide_474
  refine po_n (fun n33 _ => ?_)
  exact h_ih455 _ hq
set_option maxHeartbeats 4000000 in
set_option maxRecDepth 100000 in
theorem d_k_Mo_divide_474 (q0 : z_Sg) (ih455 : Int32 × z_Sg → Option z_Sg) (x21 : Int32) (q : z_Sg) (h_ih455 : ∀ a : Int32 × z_Sg, z_pn a.2 = z_pn q0 → z_po (ih455 a) (fun o : z_Sg => z_pn o = z_pn q0)) (hq : z_pn q = z_pn q0) : z_po (k_Mo_divide_474 ih455 x21 q) (fun o : z_Sg => z_pn o = z_pn q0) := by
  unfold k_Mo_divide_474
  refine po_n (fun n33 _ => ?_)
  exact h_ih455 _ hq
set_option maxHeartbeats 4000000 in
set_option maxRecDepth 100000 in
theorem m_kb_Mo_divide_455 (q0 : z_Sg) (ih455 : Int32 × z_Sg → Option z_Sg) (x21 : Int32) (q : z_Sg) (h_ih455 : ∀ a : Int32 × z_Sg, z_pk a.2 = z_pk q0 → z_po (ih455 a) (fun o : z_Sg => z_pk o = z_pk q0)) (hq : z_pk q = z_pk q0) : z_po (kb_Mo_divide_455 ih455 x21 q) (fun o : z_Sg => z_pk o = z_pk q0) := by
  unfold kb_Mo_divide_455
  refine po_i (fun _ => ?_) (fun _ => ?_)
  ·
    exact po_s hq
  ·
    refine po_i (fun _ => ?_) (fun _ => ?_)
    ·
      exact m_k_Mo_divide_474 q0 ih455 x21 q h_ih455 hq
    ·
      refine po_b (m_f_Mo_leave q0 x21 q hq) (fun r34 h_r34 => ?_)
      exact m_k_Mo_divide_474 q0 ih455 x21 r34 h_ih455 h_r34
set_option maxHeartbeats 4000000 in
set_option maxRecDepth 100000 in
theorem d_kb_Mo_divide_455 (q0 : z_Sg) (ih455 : Int32 × z_Sg → Option z_Sg) (x21 : Int32) (q : z_Sg) (h_ih455 : ∀ a : Int32 × z_Sg, z_pn a.2 = z_pn q0 → z_po (ih455 a) (fun o : z_Sg => z_pn o = z_pn q0)) (hq : z_pn q = z_pn q0) : z_po (kb_Mo_divide_455 ih455 x21 q) (fun o : z_Sg => z_pn o = z_pn q0) := by
  unfold kb_Mo_divide_455
  refine po_i (fun _ => ?_) (fun _ => ?_)
  ·
    exact po_s hq
  ·
    refine po_i (fun _ => ?_) (fun _ => ?_)
    ·
      exact d_k_Mo_divide_474 q0 ih455 x21 q h_ih455 hq
    ·
      refine po_b (d_f_Mo_leave q0 x21 q hq) (fun r34 h_r34 => ?_)
      exact d_k_Mo_divide_474 q0 ih455 x21 r34 h_ih455 h_r34
set_option maxHeartbeats 4000000 in
set_option maxRecDepth 100000 in
theorem m_k_Mo_divide_455 (q0 : z_Sg) (x21 : Int32) (q : z_Sg) (hq : z_pk q = z_pk q0) : z_po (k_Mo_divide_455 x21 q) (fun o : z_Sg => z_pk o = z_pk q0) := by
  unfold k_Mo_divide_455
  exact po_l (fun a : Int32 × z_Sg => z_pk a.2 = z_pk q0) (fun ih455 a ha hih => m_kb_Mo_divide_455 q0 ih455 a.1 a.2  hih ha) _ _ hq
set_option maxHeartbeats 4000000 in
set_option maxRecDepth 100000 in
theorem d_k_Mo_divide_455 (q0 : z_Sg) (x21 : Int32) (q : z_Sg) (hq : z_pn q = z_pn q0) : z_po (k_Mo_divide_455 x21 q) (fun o : z_Sg => z_pn o = z_pn q0) := by
  unfold k_Mo_divide_455
  exact po_l (fun a : Int32 × z_Sg => z_pn a.2 = z_pn q0) (fun ih455 a ha hih => d_kb_Mo_divide_455 q0 ih455 a.1 a.2  hih ha) _ _ hq
set_option maxHeartbeats 4000000 in
set_option maxRecDepth 100000 in
theorem m_k_Mo_divide_452 (q0 : z_Sg) (q : z_Sg) (hq : z_pk q = z_pk q0) : z_po (k_Mo_divide_452 q) (fun o : z_Sg => z_pk o = z_pk q0) := by
  unfold k_Mo_divide_452
  exact m_k_Mo_divide_455 q0 (0 : Int32) q hq
set_option maxHeartbeats 4000000 in
set_option maxRecDepth 100000 in
theorem d_k_Mo_divide_452 (q0 : z_Sg) (q : z_Sg) (hq : z_pn q = z_pn q0) : z_po (k_Mo_divide_452 q) (fun o : z_Sg => z_pn o = z_pn q0) := by
  unfold k_Mo_divide_452
  exact d_k_Mo_divide_455 q0 (0 : Int32) q hq
set_option maxHeartbeats 4000000 in
set_option maxRecDepth 100000 in
theorem m_k_Mo_divide_404 (q0 : z_Sg) (x3 : Int32) (x17 : Int64) (t0 : Int64) (q : z_Sg) (hq : z_pk q = z_pk q0) : z_po (k_Mo_divide_404 x3 x17 t0 q) (fun o : z_Sg => z_pk o = z_pk q0) := by
  unfold k_Mo_divide_404
  refine po_i (fun _ => ?_) (fun _ => ?_)
  ·
    refine po_b (R := fun _ => True) (fun _ _ => trivial) (fun r35 _ => ?_)
    refine po_b (R := fun _ => True) (fun _ _ => trivial) (fun r36 _ => ?_)
    refine po_b (m_f_Mo_put8 q0 (0 : Int32) (2 : Int32) ((z_lshl r35 (8 : Int32)) ||| r36) q hq) (fun r37 h_r37 => ?_)
    exact m_k_Mo_divide_452 q0 r37 h_r37
  ·
    refine po_b (m_f_Mo_put8 q0 (0 : Int32) x3 x17 q hq) (fun r29 h_r29 => ?_)
    refine po_b (m_f_Mo_put8 q0 (2 : Int32) x3 t0 r29 h_r29) (fun r30 h_r30 => ?_)
    exact m_k_Mo_divide_452 q0 r30 h_r30
set_option maxHeartbeats 4000000 in
set_option maxRecDepth 100000 in
theorem d_k_Mo_divide_404 (q0 : z_Sg) (x3 : Int32) (x17 : Int64) (t0 : Int64) (q : z_Sg) (hq : z_pn q = z_pn q0) : z_po (k_Mo_divide_404 x3 x17 t0 q) (fun o : z_Sg => z_pn o = z_pn q0) := by
  unfold k_Mo_divide_404
  refine po_i (fun _ => ?_) (fun _ => ?_)
  ·
    refine po_b (R := fun _ => True) (fun _ _ => trivial) (fun r35 _ => ?_)
    refine po_b (R := fun _ => True) (fun _ _ => trivial) (fun r36 _ => ?_)
    refine po_b (d_f_Mo_put8 q0 (0 : Int32) (2 : Int32) ((z_lshl r35 (8 : Int32)) ||| r36) q hq) (fun r37 h_r37 => ?_)
    exact d_k_Mo_divide_452 q0 r37 h_r37
  ·
    refine po_b (d_f_Mo_put8 q0 (0 : Int32) x3 x17 q hq) (fun r29 h_r29 => ?_)
    refine po_b (d_f_Mo_put8 q0 (2 : Int32) x3 t0 r29 h_r29) (fun r30 h_r30 => ?_)
    exact d_k_Mo_divide_452 q0 r30 h_r30
set_option maxHeartbeats 4000000 in
set_option maxRecDepth 100000 in
theorem m_k_Mo_divide_385 (q0 : z_Sg) (x3 : Int32) (x8 : Int32) (t0 : Int64) (q : z_Sg) (hq : z_pk q = z_pk q0) : z_po (k_Mo_divide_385 x3 x8 t0 q) (fun o : z_Sg => z_pk o = z_pk q0) := by
  unfold k_Mo_divide_385
  refine po_i (fun _ => ?_) (fun _ => ?_)
  ·
    exact m_k_Mo_divide_404 q0 x3 t0 (z_gL q 9) q hq
  ·
    exact m_k_Mo_divide_404 q0 x3 t0 (-(z_gL q 9)) q hq
set_option maxHeartbeats 4000000 in
set_option maxRecDepth 100000 in
theorem d_k_Mo_divide_385 (q0 : z_Sg) (x3 : Int32) (x8 : Int32) (t0 : Int64) (q : z_Sg) (hq : z_pn q = z_pn q0) : z_po (k_Mo_divide_385 x3 x8 t0 q) (fun o : z_Sg => z_pn o = z_pn q0) := by
  unfold k_Mo_divide_385
  refine po_i (fun _ => ?_) (fun _ => ?_)
  ·
    exact d_k_Mo_divide_404 q0 x3 t0 (z_gL q 9) q hq
  ·
    exact d_k_Mo_divide_404 q0 x3 t0 (-(z_gL q 9)) q hq
set_option maxHeartbeats 4000000 in
set_option maxRecDepth 100000 in
theorem m_k_Mo_divide_368 (q0 : z_Sg) (x3 : Int32) (x8 : Int32) (x11 : Int32) (q : z_Sg) (hq : z_pk q = z_pk q0) : z_po (k_Mo_divide_368 x3 x8 x11 q) (fun o : z_Sg => z_pk o = z_pk q0) := by
  unfold k_Mo_divide_368
  refine po_i (fun _ => ?_) (fun _ => ?_)
  ·
    exact m_k_Mo_divide_385 q0 x3 x8 (z_gL q 8) q hq
  ·
    exact m_k_Mo_divide_385 q0 x3 x8 (-(z_gL q 8)) q hq
set_option maxHeartbeats 4000000 in
set_option maxRecDepth 100000 in
theorem d_k_Mo_divide_368 (q0 : z_Sg) (x3 : Int32) (x8 : Int32) (x11 : Int32) (q : z_Sg) (hq : z_pn q = z_pn q0) : z_po (k_Mo_divide_368 x3 x8 x11 q) (fun o : z_Sg => z_pn o = z_pn q0) := by
  unfold k_Mo_divide_368
  refine po_i (fun _ => ?_) (fun _ => ?_)
  ·
    exact d_k_Mo_divide_385 q0 x3 x8 (z_gL q 8) q hq
  ·
    exact d_k_Mo_divide_385 q0 x3 x8 (-(z_gL q 8)) q hq
set_option maxHeartbeats 4000000 in
set_option maxRecDepth 100000 in
theorem m_k_Mo_divide_356 (q0 : z_Sg) (x3 : Int32) (x8 : Int32) (x11 : Int32) (t0 : Int32) (q : z_Sg) (hq : z_pk q = z_pk q0) : z_po (k_Mo_divide_356 x3 x8 x11 t0 q) (fun o : z_Sg => z_pk o = z_pk q0) := by
  unfold k_Mo_divide_356
  refine po_i (fun _ => ?_) (fun _ => ?_)
  ·
    refine po_b (m_f_Mo_refuse q0 (0 : Int32) q hq) (fun r38 h_r38 => ?_)
    exact m_k_Mo_divide_368 q0 x3 x8 x11 r38 h_r38
  ·
    exact m_k_Mo_divide_368 q0 x3 x8 x11 q hq
set_option maxHeartbeats 4000000 in
set_option maxRecDepth 100000 in
theorem d_k_Mo_divide_356 (q0 : z_Sg) (x3 : Int32) (x8 : Int32) (x11 : Int32) (t0 : Int32) (q : z_Sg) (hq : z_pn q = z_pn q0) (hd : ¬ z_gI q0 4 = -1) : z_po (k_Mo_divide_356 x3 x8 x11 t0 q) (fun o : z_Sg => z_pn o = z_pn q0) := by
  unfold k_Mo_divide_356
  refine po_i (fun _ => ?_) (fun _ => ?_)
  ·
    refine po_b (d_f_Mo_refuse q0 (0 : Int32) q hq hd) (fun r38 h_r38 => ?_)
    exact d_k_Mo_divide_368 q0 x3 x8 x11 r38 h_r38
  ·
    exact d_k_Mo_divide_368 q0 x3 x8 x11 q hq
set_option maxHeartbeats 4000000 in
set_option maxRecDepth 100000 in
theorem m_k_Mo_divide_351 (q0 : z_Sg) (x3 : Int32) (x8 : Int32) (x11 : Int32) (q : z_Sg) (hq : z_pk q = z_pk q0) : z_po (k_Mo_divide_351 x3 x8 x11 q) (fun o : z_Sg => z_pk o = z_pk q0) := by
  unfold k_Mo_divide_351
  exact m_k_Mo_divide_356 q0 x3 x8 x11 (1 : Int32) q hq
set_option maxHeartbeats 4000000 in
set_option maxRecDepth 100000 in
theorem d_k_Mo_divide_351 (q0 : z_Sg) (x3 : Int32) (x8 : Int32) (x11 : Int32) (q : z_Sg) (hq : z_pn q = z_pn q0) (hd : ¬ z_gI q0 4 = -1) : z_po (k_Mo_divide_351 x3 x8 x11 q) (fun o : z_Sg => z_pn o = z_pn q0) := by
  unfold k_Mo_divide_351
  exact d_k_Mo_divide_356 q0 x3 x8 x11 (1 : Int32) q hq hd
set_option maxHeartbeats 4000000 in
set_option maxRecDepth 100000 in
theorem m_k_Mo_divide_355 (q0 : z_Sg) (x3 : Int32) (x8 : Int32) (x11 : Int32) (q : z_Sg) (hq : z_pk q = z_pk q0) : z_po (k_Mo_divide_355 x3 x8 x11 q) (fun o : z_Sg => z_pk o = z_pk q0) := by
  unfold k_Mo_divide_355
  exact m_k_Mo_divide_356 q0 x3 x8 x11 (0 : Int32) q hq
set_option maxHeartbeats 4000000 in
set_option maxRecDepth 100000 in
theorem d_k_Mo_divide_355 (q0 : z_Sg) (x3 : Int32) (x8 : Int32) (x11 : Int32) (q : z_Sg) (hq : z_pn q = z_pn q0) (hd : ¬ z_gI q0 4 = -1) : z_po (k_Mo_divide_355 x3 x8 x11 q) (fun o : z_Sg => z_pn o = z_pn q0) := by
  unfold k_Mo_divide_355
  exact d_k_Mo_divide_356 q0 x3 x8 x11 (0 : Int32) q hq hd
set_option maxHeartbeats 4000000 in
set_option maxRecDepth 100000 in
theorem m_k_Mo_divide_313 (q0 : z_Sg) (x3 : Int32) (x8 : Int32) (x11 : Int32) (q : z_Sg) (hq : z_pk q = z_pk q0) : z_po (k_Mo_divide_313 x3 x8 x11 q) (fun o : z_Sg => z_pk o = z_pk q0) := by
  unfold k_Mo_divide_313
  exact m_k_Mo_divide_356 q0 x3 x8 x11 (1 : Int32) q hq
set_option maxHeartbeats 4000000 in
set_option maxRecDepth 100000 in
theorem d_k_Mo_divide_313 (q0 : z_Sg) (x3 : Int32) (x8 : Int32) (x11 : Int32) (q : z_Sg) (hq : z_pn q = z_pn q0) (hd : ¬ z_gI q0 4 = -1) : z_po (k_Mo_divide_313 x3 x8 x11 q) (fun o : z_Sg => z_pn o = z_pn q0) := by
  unfold k_Mo_divide_313
  exact d_k_Mo_divide_356 q0 x3 x8 x11 (1 : Int32) q hq hd
set_option maxHeartbeats 4000000 in
set_option maxRecDepth 100000 in
theorem m_k_Mo_divide_272 (q0 : z_Sg) (x3 : Int32) (x4 : Int32) (x8 : Int32) (x11 : Int32) (t0 : Int64) (t1 : Int32) (q : z_Sg) (hq : z_pk q = z_pk q0) : z_po (k_Mo_divide_272 x3 x4 x8 x11 t0 t1 q) (fun o : z_Sg => z_pk o = z_pk q0) := by
  unfold k_Mo_divide_272
  refine po_n (fun n21 _ => ?_)
  refine po_n (fun n22 _ => ?_)
  refine po_i (fun _ => ?_) (fun _ => ?_)
  ·
    refine po_i (fun _ => ?_) (fun _ => ?_)
    ·
      exact m_k_Mo_divide_313 q0 x3 x8 x11 q hq
    ·
      refine po_i (fun _ => ?_) (fun _ => ?_)
      ·
        exact m_k_Mo_divide_356 q0 x3 x8 x11 (0 : Int32) q hq
      ·
        exact m_k_Mo_divide_313 q0 x3 x8 x11 q hq
  ·
    refine po_i (fun _ => ?_) (fun _ => ?_)
    ·
      exact m_k_Mo_divide_351 q0 x3 x8 x11 q hq
    ·
      refine po_i (fun _ => ?_) (fun _ => ?_)
      ·
        exact m_k_Mo_divide_355 q0 x3 x8 x11 q hq
      ·
        refine po_i (fun _ => ?_) (fun _ => ?_)
        ·
          exact m_k_Mo_divide_351 q0 x3 x8 x11 q hq
        ·
          exact m_k_Mo_divide_355 q0 x3 x8 x11 q hq
set_option maxHeartbeats 4000000 in
set_option maxRecDepth 100000 in
theorem d_k_Mo_divide_272 (q0 : z_Sg) (x3 : Int32) (x4 : Int32) (x8 : Int32) (x11 : Int32) (t0 : Int64) (t1 : Int32) (q : z_Sg) (hq : z_pn q = z_pn q0) (hd : ¬ z_gI q0 4 = -1) : z_po (k_Mo_divide_272 x3 x4 x8 x11 t0 t1 q) (fun o : z_Sg => z_pn o = z_pn q0) := by
  unfold k_Mo_divide_272
  refine po_n (fun n21 _ => ?_)
  refine po_n (fun n22 _ => ?_)
  refine po_i (fun _ => ?_) (fun _ => ?_)
  ·
    refine po_i (fun _ => ?_) (fun _ => ?_)
    ·
      exact d_k_Mo_divide_313 q0 x3 x8 x11 q hq hd
    ·
      refine po_i (fun _ => ?_) (fun _ => ?_)
      ·
        exact d_k_Mo_divide_356 q0 x3 x8 x11 (0 : Int32) q hq hd
      ·
        exact d_k_Mo_divide_313 q0 x3 x8 x11 q hq hd
  ·
    refine po_i (fun _ => ?_) (fun _ => ?_)
    ·
      exact d_k_Mo_divide_351 q0 x3 x8 x11 q hq hd
    ·
      refine po_i (fun _ => ?_) (fun _ => ?_)
      ·
        exact d_k_Mo_divide_355 q0 x3 x8 x11 q hq hd
      ·
        refine po_i (fun _ => ?_) (fun _ => ?_)
        ·
          exact d_k_Mo_divide_351 q0 x3 x8 x11 q hq hd
        ·
          exact d_k_Mo_divide_355 q0 x3 x8 x11 q hq hd
set_option maxHeartbeats 4000000 in
set_option maxRecDepth 100000 in
theorem m_k_Mo_divide_241 (q0 : z_Sg) (x3 : Int32) (x4 : Int32) (x8 : Int32) (x11 : Int32) (t1 : Int64) (q : z_Sg) (hq : z_pk q = z_pk q0) : z_po (k_Mo_divide_241 x3 x4 x8 x11 t1 q) (fun o : z_Sg => z_pk o = z_pk q0) := by
  unfold k_Mo_divide_241
  refine po_b (m_f_Mo_quotient q0 t1 (64 : Int32) q hq) (fun r17 h_r17 => ?_)
  refine po_i (fun _ => ?_) (fun _ => ?_)
  ·
    refine po_b (m_f_Mo_refuse q0 (0 : Int32) r17.2 h_r17) (fun r43 h_r43 => ?_)
    exact po_s h_r43
  ·
    refine po_b (R := fun _ => True) (fun _ _ => trivial) (fun r19 _ => ?_)
    refine po_i (fun _ => ?_) (fun _ => ?_)
    ·
      exact m_k_Mo_divide_272 q0 x3 x4 x8 x11 r19 (0 : Int32) r17.2 h_r17
    ·
      exact m_k_Mo_divide_272 q0 x3 x4 x8 x11 r19 (1 : Int32) r17.2 h_r17
set_option maxHeartbeats 4000000 in
set_option maxRecDepth 100000 in
theorem d_k_Mo_divide_241 (q0 : z_Sg) (x3 : Int32) (x4 : Int32) (x8 : Int32) (x11 : Int32) (t1 : Int64) (q : z_Sg) (hq : z_pn q = z_pn q0) (hd : ¬ z_gI q0 4 = -1) : z_po (k_Mo_divide_241 x3 x4 x8 x11 t1 q) (fun o : z_Sg => z_pn o = z_pn q0) := by
  unfold k_Mo_divide_241
  refine po_b (d_f_Mo_quotient q0 t1 (64 : Int32) q hq) (fun r17 h_r17 => ?_)
  refine po_i (fun _ => ?_) (fun _ => ?_)
  ·
    refine po_b (d_f_Mo_refuse q0 (0 : Int32) r17.2 h_r17 hd) (fun r43 h_r43 => ?_)
    exact po_s h_r43
  ·
    refine po_b (R := fun _ => True) (fun _ _ => trivial) (fun r19 _ => ?_)
    refine po_i (fun _ => ?_) (fun _ => ?_)
    ·
      exact d_k_Mo_divide_272 q0 x3 x4 x8 x11 r19 (0 : Int32) r17.2 h_r17 hd
    ·
      exact d_k_Mo_divide_272 q0 x3 x4 x8 x11 r19 (1 : Int32) r17.2 h_r17 hd
set_option maxHeartbeats 4000000 in
set_option maxRecDepth 100000 in
theorem m_k_Mo_divide_239 (q0 : z_Sg) (x3 : Int32) (x4 : Int32) (x8 : Int32) (x9 : Int64) (x11 : Int32) (q : z_Sg) (hq : z_pk q = z_pk q0) : z_po (k_Mo_divide_239 x3 x4 x8 x9 x11 q) (fun o : z_Sg => z_pk o = z_pk q0) := by
  unfold k_Mo_divide_239
  exact m_k_Mo_divide_241 q0 x3 x4 x8 x11 x9 q hq
set_option maxHeartbeats 4000000 in
set_option maxRecDepth 100000 in
theorem d_k_Mo_divide_239 (q0 : z_Sg) (x3 : Int32) (x4 : Int32) (x8 : Int32) (x9 : Int64) (x11 : Int32) (q : z_Sg) (hq : z_pn q = z_pn q0) (hd : ¬ z_gI q0 4 = -1) : z_po (k_Mo_divide_239 x3 x4 x8 x9 x11 q) (fun o : z_Sg => z_pn o = z_pn q0) := by
  unfold k_Mo_divide_239
  exact d_k_Mo_divide_241 q0 x3 x4 x8 x11 x9 q hq hd
set_option maxHeartbeats 4000000 in
set_option maxRecDepth 100000 in
theorem m_k_Mo_divide_220 (q0 : z_Sg) (x3 : Int32) (x4 : Int32) (x8 : Int32) (x9 : Int64) (x11 : Int32) (q : z_Sg) (hq : z_pk q = z_pk q0) : z_po (k_Mo_divide_220 x3 x4 x8 x9 x11 q) (fun o : z_Sg => z_pk o = z_pk q0) := by
  unfold k_Mo_divide_220
  refine po_i (fun _ => ?_) (fun _ => ?_)
  ·
    exact m_k_Mo_divide_239 q0 x3 x4 x8 x9 x11 q hq
  ·
    refine po_i (fun _ => ?_) (fun _ => ?_)
    ·
      exact m_k_Mo_divide_239 q0 x3 x4 x8 x9 x11 q hq
    ·
      exact m_k_Mo_divide_241 q0 x3 x4 x8 x11 (-x9) q hq
set_option maxHeartbeats 4000000 in
set_option maxRecDepth 100000 in
theorem d_k_Mo_divide_220 (q0 : z_Sg) (x3 : Int32) (x4 : Int32) (x8 : Int32) (x9 : Int64) (x11 : Int32) (q : z_Sg) (hq : z_pn q = z_pn q0) (hd : ¬ z_gI q0 4 = -1) : z_po (k_Mo_divide_220 x3 x4 x8 x9 x11 q) (fun o : z_Sg => z_pn o = z_pn q0) := by
  unfold k_Mo_divide_220
  refine po_i (fun _ => ?_) (fun _ => ?_)
  ·
    exact d_k_Mo_divide_239 q0 x3 x4 x8 x9 x11 q hq hd
  ·
    refine po_i (fun _ => ?_) (fun _ => ?_)
    ·
      exact d_k_Mo_divide_239 q0 x3 x4 x8 x9 x11 q hq hd
    ·
      exact d_k_Mo_divide_241 q0 x3 x4 x8 x11 (-x9) q hq hd
set_option maxHeartbeats 4000000 in
set_option maxRecDepth 100000 in
theorem m_k_Mo_divide_209 (q0 : z_Sg) (x3 : Int32) (x4 : Int32) (x8 : Int32) (x9 : Int64) (t0 : Int32) (q : z_Sg) (hq : z_pk q = z_pk q0) : z_po (k_Mo_divide_209 x3 x4 x8 x9 t0 q) (fun o : z_Sg => z_pk o = z_pk q0) := by
  unfold k_Mo_divide_209
  refine po_i (fun _ => ?_) (fun _ => ?_)
  ·
    exact m_k_Mo_divide_220 q0 x3 x4 x8 x9 t0 q hq
  ·
    refine po_b (m_f_Mo_turnSign q0 q hq) (fun r45 h_r45 => ?_)
    exact m_k_Mo_divide_220 q0 x3 x4 x8 x9 t0 r45 h_r45
set_option maxHeartbeats 4000000 in
set_option maxRecDepth 100000 in
theorem d_k_Mo_divide_209 (q0 : z_Sg) (x3 : Int32) (x4 : Int32) (x8 : Int32) (x9 : Int64) (t0 : Int32) (q : z_Sg) (hq : z_pn q = z_pn q0) (hd : ¬ z_gI q0 4 = -1) : z_po (k_Mo_divide_209 x3 x4 x8 x9 t0 q) (fun o : z_Sg => z_pn o = z_pn q0) := by
  unfold k_Mo_divide_209
  refine po_i (fun _ => ?_) (fun _ => ?_)
  ·
    exact d_k_Mo_divide_220 q0 x3 x4 x8 x9 t0 q hq hd
  ·
    refine po_b (d_f_Mo_turnSign q0 q hq) (fun r45 h_r45 => ?_)
    exact d_k_Mo_divide_220 q0 x3 x4 x8 x9 t0 r45 h_r45 hd
set_option maxHeartbeats 4000000 in
set_option maxRecDepth 100000 in
theorem m_k_Mo_divide_201 (q0 : z_Sg) (x3 : Int32) (x4 : Int32) (x8 : Int32) (x9 : Int64) (t0 : Int32) (t1 : Int32) (q : z_Sg) (hq : z_pk q = z_pk q0) : z_po (k_Mo_divide_201 x3 x4 x8 x9 t0 t1 q) (fun o : z_Sg => z_pk o = z_pk q0) := by
  unfold k_Mo_divide_201
  refine po_i (fun _ => ?_) (fun _ => ?_)
  ·
    exact m_k_Mo_divide_209 q0 x3 x4 x8 x9 (0 : Int32) q hq
  ·
    exact m_k_Mo_divide_209 q0 x3 x4 x8 x9 (1 : Int32) q hq
set_option maxHeartbeats 4000000 in
set_option maxRecDepth 100000 in
theorem d_k_Mo_divide_201 (q0 : z_Sg) (x3 : Int32) (x4 : Int32) (x8 : Int32) (x9 : Int64) (t0 : Int32) (t1 : Int32) (q : z_Sg) (hq : z_pn q = z_pn q0) (hd : ¬ z_gI q0 4 = -1) : z_po (k_Mo_divide_201 x3 x4 x8 x9 t0 t1 q) (fun o : z_Sg => z_pn o = z_pn q0) := by
  unfold k_Mo_divide_201
  refine po_i (fun _ => ?_) (fun _ => ?_)
  ·
    exact d_k_Mo_divide_209 q0 x3 x4 x8 x9 (0 : Int32) q hq hd
  ·
    exact d_k_Mo_divide_209 q0 x3 x4 x8 x9 (1 : Int32) q hq hd
set_option maxHeartbeats 4000000 in
set_option maxRecDepth 100000 in
theorem m_k_Mo_divide_200 (q0 : z_Sg) (x3 : Int32) (x4 : Int32) (x8 : Int32) (x9 : Int64) (t0 : Int32) (q : z_Sg) (hq : z_pk q = z_pk q0) : z_po (k_Mo_divide_200 x3 x4 x8 x9 t0 q) (fun o : z_Sg => z_pk o = z_pk q0) := by
  unfold k_Mo_divide_200
  exact m_k_Mo_divide_201 q0 x3 x4 x8 x9 t0 (0 : Int32) q hq
set_option maxHeartbeats 4000000 in
set_option maxRecDepth 100000 in
theorem d_k_Mo_divide_200 (q0 : z_Sg) (x3 : Int32) (x4 : Int32) (x8 : Int32) (x9 : Int64) (t0 : Int32) (q : z_Sg) (hq : z_pn q = z_pn q0) (hd : ¬ z_gI q0 4 = -1) : z_po (k_Mo_divide_200 x3 x4 x8 x9 t0 q) (fun o : z_Sg => z_pn o = z_pn q0) := by
  unfold k_Mo_divide_200
  exact d_k_Mo_divide_201 q0 x3 x4 x8 x9 t0 (0 : Int32) q hq hd
set_option maxHeartbeats 4000000 in
set_option maxRecDepth 100000 in
theorem m_k_Mo_divide_180 (q0 : z_Sg) (x3 : Int32) (x4 : Int32) (x8 : Int32) (t0 : Int64) (q : z_Sg) (hq : z_pk q = z_pk q0) : z_po (k_Mo_divide_180 x3 x4 x8 t0 q) (fun o : z_Sg => z_pk o = z_pk q0) := by
  unfold k_Mo_divide_180
  refine po_i (fun _ => ?_) (fun _ => ?_)
  ·
    exact m_k_Mo_divide_200 q0 x3 x4 x8 t0 x8 q hq
  ·
    refine po_i (fun _ => ?_) (fun _ => ?_)
    ·
      exact m_k_Mo_divide_200 q0 x3 x4 x8 t0 x8 q hq
    ·
      exact m_k_Mo_divide_201 q0 x3 x4 x8 t0 x8 (1 : Int32) q hq
set_option maxHeartbeats 4000000 in
set_option maxRecDepth 100000 in
theorem d_k_Mo_divide_180 (q0 : z_Sg) (x3 : Int32) (x4 : Int32) (x8 : Int32) (t0 : Int64) (q : z_Sg) (hq : z_pn q = z_pn q0) (hd : ¬ z_gI q0 4 = -1) : z_po (k_Mo_divide_180 x3 x4 x8 t0 q) (fun o : z_Sg => z_pn o = z_pn q0) := by
  unfold k_Mo_divide_180
  refine po_i (fun _ => ?_) (fun _ => ?_)
  ·
    exact d_k_Mo_divide_200 q0 x3 x4 x8 t0 x8 q hq hd
  ·
    refine po_i (fun _ => ?_) (fun _ => ?_)
    ·
      exact d_k_Mo_divide_200 q0 x3 x4 x8 t0 x8 q hq hd
    ·
      exact d_k_Mo_divide_201 q0 x3 x4 x8 t0 x8 (1 : Int32) q hq hd
set_option maxHeartbeats 4000000 in
set_option maxRecDepth 100000 in
theorem m_k_Mo_divide_164 (q0 : z_Sg) (x1 : Int64) (x3 : Int32) (x4 : Int32) (t0 : Int32) (q : z_Sg) (hq : z_pk q = z_pk q0) : z_po (k_Mo_divide_164 x1 x3 x4 t0 q) (fun o : z_Sg => z_pk o = z_pk q0) := by
  unfold k_Mo_divide_164
  refine po_i (fun _ => ?_) (fun _ => ?_)
  ·
    exact m_k_Mo_divide_180 q0 x3 x4 t0 x1 q hq
  ·
    refine po_b (R := fun _ => True) (fun _ _ => trivial) (fun r47 _ => ?_)
    exact m_k_Mo_divide_180 q0 x3 x4 t0 r47 q hq
set_option maxHeartbeats 4000000 in
set_option maxRecDepth 100000 in
theorem d_k_Mo_divide_164 (q0 : z_Sg) (x1 : Int64) (x3 : Int32) (x4 : Int32) (t0 : Int32) (q : z_Sg) (hq : z_pn q = z_pn q0) (hd : ¬ z_gI q0 4 = -1) : z_po (k_Mo_divide_164 x1 x3 x4 t0 q) (fun o : z_Sg => z_pn o = z_pn q0) := by
  unfold k_Mo_divide_164
  refine po_i (fun _ => ?_) (fun _ => ?_)
  ·
    exact d_k_Mo_divide_180 q0 x3 x4 t0 x1 q hq hd
  ·
    refine po_b (R := fun _ => True) (fun _ _ => trivial) (fun r47 _ => ?_)
    exact d_k_Mo_divide_180 q0 x3 x4 t0 r47 q hq hd
set_option maxHeartbeats 4000000 in
set_option maxRecDepth 100000 in
theorem m_k_Mo_divide_163 (q0 : z_Sg) (x1 : Int64) (x3 : Int32) (x4 : Int32) (q : z_Sg) (hq : z_pk q = z_pk q0) : z_po (k_Mo_divide_163 x1 x3 x4 q) (fun o : z_Sg => z_pk o = z_pk q0) := by
  unfold k_Mo_divide_163
  exact m_k_Mo_divide_164 q0 x1 x3 x4 (0 : Int32) q hq
set_option maxHeartbeats 4000000 in
set_option maxRecDepth 100000 in
theorem d_k_Mo_divide_163 (q0 : z_Sg) (x1 : Int64) (x3 : Int32) (x4 : Int32) (q : z_Sg) (hq : z_pn q = z_pn q0) (hd : ¬ z_gI q0 4 = -1) : z_po (k_Mo_divide_163 x1 x3 x4 q) (fun o : z_Sg => z_pn o = z_pn q0) := by
  unfold k_Mo_divide_163
  exact d_k_Mo_divide_164 q0 x1 x3 x4 (0 : Int32) q hq hd
set_option maxHeartbeats 4000000 in
set_option maxRecDepth 100000 in
theorem m_k_Mo_divide_145 (q0 : z_Sg) (x1 : Int64) (x3 : Int32) (x4 : Int32) (q : z_Sg) (hq : z_pk q = z_pk q0) : z_po (k_Mo_divide_145 x1 x3 x4 q) (fun o : z_Sg => z_pk o = z_pk q0) := by
  unfold k_Mo_divide_145
  refine po_i (fun _ => ?_) (fun _ => ?_)
  ·
    exact m_k_Mo_divide_163 q0 x1 x3 x4 q hq
  ·
    refine po_i (fun _ => ?_) (fun _ => ?_)
    ·
      exact m_k_Mo_divide_163 q0 x1 x3 x4 q hq
    ·
      exact m_k_Mo_divide_164 q0 x1 x3 x4 (1 : Int32) q hq
set_option maxHeartbeats 4000000 in
set_option maxRecDepth 100000 in
theorem d_k_Mo_divide_145 (q0 : z_Sg) (x1 : Int64) (x3 : Int32) (x4 : Int32) (q : z_Sg) (hq : z_pn q = z_pn q0) (hd : ¬ z_gI q0 4 = -1) : z_po (k_Mo_divide_145 x1 x3 x4 q) (fun o : z_Sg => z_pn o = z_pn q0) := by
  unfold k_Mo_divide_145
  refine po_i (fun _ => ?_) (fun _ => ?_)
  ·
    exact d_k_Mo_divide_163 q0 x1 x3 x4 q hq hd
  ·
    refine po_i (fun _ => ?_) (fun _ => ?_)
    ·
      exact d_k_Mo_divide_163 q0 x1 x3 x4 q hq hd
    ·
      exact d_k_Mo_divide_164 q0 x1 x3 x4 (1 : Int32) q hq hd
set_option maxHeartbeats 4000000 in
set_option maxRecDepth 100000 in
theorem m_k_Mo_divide_142 (q0 : z_Sg) (x1 : Int64) (x3 : Int32) (x4 : Int32) (t1 : Int64) (q : z_Sg) (hq : z_pk q = z_pk q0) : z_po (k_Mo_divide_142 x1 x3 x4 t1 q) (fun o : z_Sg => z_pk o = z_pk q0) := by
  unfold k_Mo_divide_142
  refine po_n (fun q53 e_q53 => ?_)
  have h_q53 : z_pk q53 = z_pk q0 := by rw [e_q53]; exact hq
  exact m_k_Mo_divide_145 q0 x1 x3 x4 q53 h_q53
set_option maxHeartbeats 4000000 in
set_option maxRecDepth 100000 in
theorem d_k_Mo_divide_142 (q0 : z_Sg) (x1 : Int64) (x3 : Int32) (x4 : Int32) (t1 : Int64) (q : z_Sg) (hq : z_pn q = z_pn q0) (hd : ¬ z_gI q0 4 = -1) : z_po (k_Mo_divide_142 x1 x3 x4 t1 q) (fun o : z_Sg => z_pn o = z_pn q0) := by
  unfold k_Mo_divide_142
  refine po_n (fun q53 e_q53 => ?_)
  have h_q53 : z_pn q53 = z_pn q0 := by rw [e_q53]; exact hq
  exact d_k_Mo_divide_145 q0 x1 x3 x4 q53 h_q53 hd
set_option maxHeartbeats 4000000 in
set_option maxRecDepth 100000 in
theorem m_k_Mo_divide_97 (q0 : z_Sg) (x1 : Int64) (x3 : Int32) (x4 : Int32) (t1 : Int64) (q : z_Sg) (hq : z_pk q = z_pk q0) : z_po (k_Mo_divide_97 x1 x3 x4 t1 q) (fun o : z_Sg => z_pk o = z_pk q0) := by
  unfold k_Mo_divide_97
  refine po_n (fun q9 e_q9 => ?_)
  have h_q9 : z_pk q9 = z_pk q0 := by rw [e_q9]; exact hq
  refine po_i (fun _ => ?_) (fun _ => ?_)
  ·
    exact m_k_Mo_divide_145 q0 x1 x3 x4 q9 h_q9
  ·
    refine po_i (fun _ => ?_) (fun _ => ?_)
    ·
      exact m_k_Mo_divide_145 q0 x1 x3 x4 q9 h_q9
    ·
      refine po_b (R := fun _ => True) (fun _ _ => trivial) (fun r50 _ => ?_)
      refine po_n (fun q51 e_q51 => ?_)
      have h_q51 : z_pk q51 = z_pk q0 := by rw [e_q51]; exact h_q9
      refine po_i (fun _ => ?_) (fun _ => ?_)
      ·
        exact m_k_Mo_divide_142 q0 x1 x3 x4 (0 : Int64) q51 h_q51
      ·
        exact m_k_Mo_divide_142 q0 x1 x3 x4 (-1 : Int64) q51 h_q51
set_option maxHeartbeats 4000000 in
set_option maxRecDepth 100000 in
theorem d_k_Mo_divide_97 (q0 : z_Sg) (x1 : Int64) (x3 : Int32) (x4 : Int32) (t1 : Int64) (q : z_Sg) (hq : z_pn q = z_pn q0) (hd : ¬ z_gI q0 4 = -1) : z_po (k_Mo_divide_97 x1 x3 x4 t1 q) (fun o : z_Sg => z_pn o = z_pn q0) := by
  unfold k_Mo_divide_97
  refine po_n (fun q9 e_q9 => ?_)
  have h_q9 : z_pn q9 = z_pn q0 := by rw [e_q9]; exact hq
  refine po_i (fun _ => ?_) (fun _ => ?_)
  ·
    exact d_k_Mo_divide_145 q0 x1 x3 x4 q9 h_q9 hd
  ·
    refine po_i (fun _ => ?_) (fun _ => ?_)
    ·
      exact d_k_Mo_divide_145 q0 x1 x3 x4 q9 h_q9 hd
    ·
      refine po_b (R := fun _ => True) (fun _ _ => trivial) (fun r50 _ => ?_)
      refine po_n (fun q51 e_q51 => ?_)
      have h_q51 : z_pn q51 = z_pn q0 := by rw [e_q51]; exact h_q9
      refine po_i (fun _ => ?_) (fun _ => ?_)
      ·
        exact d_k_Mo_divide_142 q0 x1 x3 x4 (0 : Int64) q51 h_q51 hd
      ·
        exact d_k_Mo_divide_142 q0 x1 x3 x4 (-1 : Int64) q51 h_q51 hd
set_option maxHeartbeats 4000000 in
set_option maxRecDepth 100000 in
theorem m_k_Mo_divide_76 (q0 : z_Sg) (x1 : Int64) (x3 : Int32) (x4 : Int32) (x6 : Int64) (q : z_Sg) (hq : z_pk q = z_pk q0) : z_po (k_Mo_divide_76 x1 x3 x4 x6 q) (fun o : z_Sg => z_pk o = z_pk q0) := by
  unfold k_Mo_divide_76
  exact m_k_Mo_divide_97 q0 x1 x3 x4 x6 q hq
set_option maxHeartbeats 4000000 in
set_option maxRecDepth 100000 in
theorem d_k_Mo_divide_76 (q0 : z_Sg) (x1 : Int64) (x3 : Int32) (x4 : Int32) (x6 : Int64) (q : z_Sg) (hq : z_pn q = z_pn q0) (hd : ¬ z_gI q0 4 = -1) : z_po (k_Mo_divide_76 x1 x3 x4 x6 q) (fun o : z_Sg => z_pn o = z_pn q0) := by
  unfold k_Mo_divide_76
  exact d_k_Mo_divide_97 q0 x1 x3 x4 x6 q hq hd
set_option maxHeartbeats 4000000 in
set_option maxRecDepth 100000 in
theorem m_k_Mo_divide_61 (q0 : z_Sg) (x1 : Int64) (x3 : Int32) (x4 : Int32) (x5 : Int32) (x6 : Int64) (t1 : Int64) (q : z_Sg) (hq : z_pk q = z_pk q0) : z_po (k_Mo_divide_61 x1 x3 x4 x5 x6 t1 q) (fun o : z_Sg => z_pk o = z_pk q0) := by
  unfold k_Mo_divide_61
  refine po_n (fun q7 e_q7 => ?_)
  have h_q7 : z_pk q7 = z_pk q0 := by rw [e_q7]; exact hq
  refine po_i (fun _ => ?_) (fun _ => ?_)
  ·
    exact m_k_Mo_divide_76 q0 x1 x3 x4 x6 q7 h_q7
  ·
    refine po_i (fun _ => ?_) (fun _ => ?_)
    ·
      exact m_k_Mo_divide_76 q0 x1 x3 x4 x6 q7 h_q7
    ·
      refine po_g (fun _ => ?_)
      refine po_b (R := fun _ => True) (fun _ _ => trivial) (fun r56 _ => ?_)
      exact m_k_Mo_divide_97 q0 x1 x3 x4 ((z_lshl r56 x5) ||| x6) q7 h_q7
set_option maxHeartbeats 4000000 in
set_option maxRecDepth 100000 in
theorem d_k_Mo_divide_61 (q0 : z_Sg) (x1 : Int64) (x3 : Int32) (x4 : Int32) (x5 : Int32) (x6 : Int64) (t1 : Int64) (q : z_Sg) (hq : z_pn q = z_pn q0) (hd : ¬ z_gI q0 4 = -1) : z_po (k_Mo_divide_61 x1 x3 x4 x5 x6 t1 q) (fun o : z_Sg => z_pn o = z_pn q0) := by
  unfold k_Mo_divide_61
  refine po_n (fun q7 e_q7 => ?_)
  have h_q7 : z_pn q7 = z_pn q0 := by rw [e_q7]; exact hq
  refine po_i (fun _ => ?_) (fun _ => ?_)
  ·
    exact d_k_Mo_divide_76 q0 x1 x3 x4 x6 q7 h_q7 hd
  ·
    refine po_i (fun _ => ?_) (fun _ => ?_)
    ·
      exact d_k_Mo_divide_76 q0 x1 x3 x4 x6 q7 h_q7 hd
    ·
      refine po_g (fun _ => ?_)
      refine po_b (R := fun _ => True) (fun _ _ => trivial) (fun r56 _ => ?_)
      exact d_k_Mo_divide_97 q0 x1 x3 x4 ((z_lshl r56 x5) ||| x6) q7 h_q7 hd
set_option maxHeartbeats 4000000 in
set_option maxRecDepth 100000 in
theorem m_k_Mo_divide_39 (q0 : z_Sg) (x1 : Int64) (x3 : Int32) (x4 : Int32) (x5 : Int32) (t1 : Int32) (t2 : Int32) (q : z_Sg) (hq : z_pk q = z_pk q0) : z_po (k_Mo_divide_39 x1 x3 x4 x5 t1 t2 q) (fun o : z_Sg => z_pk o = z_pk q0) := by
  unfold k_Mo_divide_39
  refine po_b (R := fun _ => True) (fun _ _ => trivial) (fun r5 _ => ?_)
  refine po_i (fun _ => ?_) (fun _ => ?_)
  ·
    refine po_g (fun _ => ?_)
    exact m_k_Mo_divide_61 q0 x1 x3 x4 x5 r5 (z_gM q 0 (2 : Int32).toNatClampNeg) q hq
  ·
    exact m_k_Mo_divide_61 q0 x1 x3 x4 x5 r5 (0 : Int64) q hq
set_option maxHeartbeats 4000000 in
set_option maxRecDepth 100000 in
theorem d_k_Mo_divide_39 (q0 : z_Sg) (x1 : Int64) (x3 : Int32) (x4 : Int32) (x5 : Int32) (t1 : Int32) (t2 : Int32) (q : z_Sg) (hq : z_pn q = z_pn q0) (hd : ¬ z_gI q0 4 = -1) : z_po (k_Mo_divide_39 x1 x3 x4 x5 t1 t2 q) (fun o : z_Sg => z_pn o = z_pn q0) := by
  unfold k_Mo_divide_39
  refine po_b (R := fun _ => True) (fun _ _ => trivial) (fun r5 _ => ?_)
  refine po_i (fun _ => ?_) (fun _ => ?_)
  ·
    refine po_g (fun _ => ?_)
    exact d_k_Mo_divide_61 q0 x1 x3 x4 x5 r5 (z_gM q 0 (2 : Int32).toNatClampNeg) q hq hd
  ·
    exact d_k_Mo_divide_61 q0 x1 x3 x4 x5 r5 (0 : Int64) q hq hd
set_option maxHeartbeats 4000000 in
set_option maxRecDepth 100000 in
theorem m_f_Mo_divide (q0 : z_Sg) (x1 : Int64) (x3 : Int32) (x4 : Int32) (q : z_Sg) (hq : z_pk q = z_pk q0) : z_po (f_Mo_divide x1 x3 x4 q) (fun o : z_Sg => z_pk o = z_pk q0) := by
  unfold f_Mo_divide
  refine po_i (fun _ => ?_) (fun _ => ?_)
  ·
    refine po_i (fun _ => ?_) (fun _ => ?_)
    ·
      refine po_b (m_f_Mo_refuse q0 (0 : Int32) q hq) (fun r58 h_r58 => ?_)
      exact po_s h_r58
    ·
      refine po_n (fun n3 _ => ?_)
      refine po_i (fun _ => ?_) (fun _ => ?_)
      ·
        exact m_k_Mo_divide_39 q0 x1 x3 x4 n3 (0 : Int32) (2 : Int32) q hq
      ·
        exact m_k_Mo_divide_39 q0 x1 x3 x4 n3 (0 : Int32) x3 q hq
  ·
    exact po_s hq
set_option maxHeartbeats 4000000 in
set_option maxRecDepth 100000 in
theorem d_f_Mo_divide (q0 : z_Sg) (x1 : Int64) (x3 : Int32) (x4 : Int32) (q : z_Sg) (hq : z_pn q = z_pn q0) (hd : ¬ z_gI q0 4 = -1) : z_po (f_Mo_divide x1 x3 x4 q) (fun o : z_Sg => z_pn o = z_pn q0) := by
  unfold f_Mo_divide
  refine po_f (pn_d hq hd) ?_
  exact po_s hq
set_option maxHeartbeats 4000000 in
set_option maxRecDepth 100000 in
theorem m_k_Mo_multiply_108 (q0 : z_Sg) (ih19 : Int64 × Int64 × Int64 × Int32 × z_Sg → Option z_Sg) (x3 : Int64) (x5 : Int64) (x7 : Int64) (x9 : Int32) (q : z_Sg) (h_ih19 : ∀ a : Int64 × Int64 × Int64 × Int32 × z_Sg, z_pk a.2.2.2.2 = z_pk q0 → z_po (ih19 a) (fun o : z_Sg => z_pk o = z_pk q0)) (hq : z_pk q = z_pk q0) : z_po (k_Mo_multiply_108 ih19 x3 x5 x7 x9 q) (fun o : z_Sg => z_pk o = z_pk q0) := by
  unfold k_Mo_multiply_108
  refine po_n (fun n5 _ => ?_)
  refine po_n (fun n6 _ => ?_)
  refine po_n (fun n7 _ => ?_)
  exact h_ih19 _ hq
set_option maxHeartbeats 4000000 in
set_option maxRecDepth 100000 in
theorem d_k_Mo_multiply_108 (q0 : z_Sg) (ih19 : Int64 × Int64 × Int64 × Int32 × z_Sg → Option z_Sg) (x3 : Int64) (x5 : Int64) (x7 : Int64) (x9 : Int32) (q : z_Sg) (h_ih19 : ∀ a : Int64 × Int64 × Int64 × Int32 × z_Sg, z_pn a.2.2.2.2 = z_pn q0 → z_po (ih19 a) (fun o : z_Sg => z_pn o = z_pn q0)) (hq : z_pn q = z_pn q0) : z_po (k_Mo_multiply_108 ih19 x3 x5 x7 x9 q) (fun o : z_Sg => z_pn o = z_pn q0) := by
  unfold k_Mo_multiply_108
  refine po_n (fun n5 _ => ?_)
  refine po_n (fun n6 _ => ?_)
  refine po_n (fun n7 _ => ?_)
  exact h_ih19 _ hq
set_option maxHeartbeats 4000000 in
set_option maxRecDepth 100000 in
theorem m_k_Mo_multiply_97 (q0 : z_Sg) (ih19 : Int64 × Int64 × Int64 × Int32 × z_Sg → Option z_Sg) (x3 : Int64) (x5 : Int64) (x7 : Int64) (x9 : Int32) (x10 : Int64) (t1 : Int64) (t2 : Int64) (t3 : Int64) (q : z_Sg) (h_ih19 : ∀ a : Int64 × Int64 × Int64 × Int32 × z_Sg, z_pk a.2.2.2.2 = z_pk q0 → z_po (ih19 a) (fun o : z_Sg => z_pk o = z_pk q0)) (hq : z_pk q = z_pk q0) : z_po (k_Mo_multiply_97 ih19 x3 x5 x7 x9 x10 t1 t2 t3 q) (fun o : z_Sg => z_pk o = z_pk q0) := by
  unfold k_Mo_multiply_97
  refine po_n (fun q11 e_q11 => ?_)
  have h_q11 : z_pk q11 = z_pk q0 := by rw [e_q11]; exact hq
  refine po_n (fun q12 e_q12 => ?_)
  have h_q12 : z_pk q12 = z_pk q0 := by rw [e_q12]; exact h_q11
  exact m_k_Mo_multiply_108 q0 ih19 x3 x5 x7 x9 q12 h_ih19 h_q12
set_option maxHeartbeats 4000000 in
set_option maxRecDepth 100000 in
theorem d_k_Mo_multiply_97 (q0 : z_Sg) (ih19 : Int64 × Int64 × Int64 × Int32 × z_Sg → Option z_Sg) (x3 : Int64) (x5 : Int64) (x7 : Int64) (x9 : Int32) (x10 : Int64) (t1 : Int64) (t2 : Int64) (t3 : Int64) (q : z_Sg) (h_ih19 : ∀ a : Int64 × Int64 × Int64 × Int32 × z_Sg, z_pn a.2.2.2.2 = z_pn q0 → z_po (ih19 a) (fun o : z_Sg => z_pn o = z_pn q0)) (hq : z_pn q = z_pn q0) : z_po (k_Mo_multiply_97 ih19 x3 x5 x7 x9 x10 t1 t2 t3 q) (fun o : z_Sg => z_pn o = z_pn q0) := by
  unfold k_Mo_multiply_97
  refine po_n (fun q11 e_q11 => ?_)
  have h_q11 : z_pn q11 = z_pn q0 := by rw [e_q11]; exact hq
  refine po_n (fun q12 e_q12 => ?_)
  have h_q12 : z_pn q12 = z_pn q0 := by rw [e_q12]; exact h_q11
  exact d_k_Mo_multiply_108 q0 ih19 x3 x5 x7 x9 q12 h_ih19 h_q12
set_option maxHeartbeats 4000000 in
set_option maxRecDepth 100000 in
theorem m_k_Mo_multiply_78 (q0 : z_Sg) (ih19 : Int64 × Int64 × Int64 × Int32 × z_Sg → Option z_Sg) (x3 : Int64) (x5 : Int64) (x7 : Int64) (x9 : Int32) (x10 : Int64) (t0 : Int32) (q : z_Sg) (h_ih19 : ∀ a : Int64 × Int64 × Int64 × Int32 × z_Sg, z_pk a.2.2.2.2 = z_pk q0 → z_po (ih19 a) (fun o : z_Sg => z_pk o = z_pk q0)) (hq : z_pk q = z_pk q0) : z_po (k_Mo_multiply_78 ih19 x3 x5 x7 x9 x10 t0 q) (fun o : z_Sg => z_pk o = z_pk q0) := by
  unfold k_Mo_multiply_78
  refine po_i (fun _ => ?_) (fun _ => ?_)
  ·
    exact m_k_Mo_multiply_97 q0 ih19 x3 x5 x7 x9 x10 (z_gL q 9) x5 (0 : Int64) q h_ih19 hq
  ·
    exact m_k_Mo_multiply_97 q0 ih19 x3 x5 x7 x9 x10 (z_gL q 9) x5 (1 : Int64) q h_ih19 hq
set_option maxHeartbeats 4000000 in
set_option maxRecDepth 100000 in
theorem d_k_Mo_multiply_78 (q0 : z_Sg) (ih19 : Int64 × Int64 × Int64 × Int32 × z_Sg → Option z_Sg) (x3 : Int64) (x5 : Int64) (x7 : Int64) (x9 : Int32) (x10 : Int64) (t0 : Int32) (q : z_Sg) (h_ih19 : ∀ a : Int64 × Int64 × Int64 × Int32 × z_Sg, z_pn a.2.2.2.2 = z_pn q0 → z_po (ih19 a) (fun o : z_Sg => z_pn o = z_pn q0)) (hq : z_pn q = z_pn q0) : z_po (k_Mo_multiply_78 ih19 x3 x5 x7 x9 x10 t0 q) (fun o : z_Sg => z_pn o = z_pn q0) := by
  unfold k_Mo_multiply_78
  refine po_i (fun _ => ?_) (fun _ => ?_)
  ·
    exact d_k_Mo_multiply_97 q0 ih19 x3 x5 x7 x9 x10 (z_gL q 9) x5 (0 : Int64) q h_ih19 hq
  ·
    exact d_k_Mo_multiply_97 q0 ih19 x3 x5 x7 x9 x10 (z_gL q 9) x5 (1 : Int64) q h_ih19 hq
set_option maxHeartbeats 4000000 in
set_option maxRecDepth 100000 in
theorem m_kb_Mo_multiply_19 (q0 : z_Sg) (ih19 : Int64 × Int64 × Int64 × Int32 × z_Sg → Option z_Sg) (x3 : Int64) (x5 : Int64) (x7 : Int64) (x9 : Int32) (q : z_Sg) (h_ih19 : ∀ a : Int64 × Int64 × Int64 × Int32 × z_Sg, z_pk a.2.2.2.2 = z_pk q0 → z_po (ih19 a) (fun o : z_Sg => z_pk o = z_pk q0)) (hq : z_pk q = z_pk q0) : z_po (kb_Mo_multiply_19 ih19 x3 x5 x7 x9 q) (fun o : z_Sg => z_pk o = z_pk q0) := by
  unfold kb_Mo_multiply_19
  refine po_i (fun _ => ?_) (fun _ => ?_)
  ·
    exact po_s hq
  ·
    refine po_i (fun _ => ?_) (fun _ => ?_)
    ·
      refine po_n (fun n8 _ => ?_)
      refine po_i (fun _ => ?_) (fun _ => ?_)
      ·
        exact m_k_Mo_multiply_78 q0 ih19 x3 x5 x7 x9 n8 (0 : Int32) q h_ih19 hq
      ·
        exact m_k_Mo_multiply_78 q0 ih19 x3 x5 x7 x9 n8 (1 : Int32) q h_ih19 hq
    ·
      exact m_k_Mo_multiply_108 q0 ih19 x3 x5 x7 x9 q h_ih19 hq
set_option maxHeartbeats 4000000 in
set_option maxRecDepth 100000 in
theorem d_kb_Mo_multiply_19 (q0 : z_Sg) (ih19 : Int64 × Int64 × Int64 × Int32 × z_Sg → Option z_Sg) (x3 : Int64) (x5 : Int64) (x7 : Int64) (x9 : Int32) (q : z_Sg) (h_ih19 : ∀ a : Int64 × Int64 × Int64 × Int32 × z_Sg, z_pn a.2.2.2.2 = z_pn q0 → z_po (ih19 a) (fun o : z_Sg => z_pn o = z_pn q0)) (hq : z_pn q = z_pn q0) : z_po (kb_Mo_multiply_19 ih19 x3 x5 x7 x9 q) (fun o : z_Sg => z_pn o = z_pn q0) := by
  unfold kb_Mo_multiply_19
  refine po_i (fun _ => ?_) (fun _ => ?_)
  ·
    exact po_s hq
  ·
    refine po_i (fun _ => ?_) (fun _ => ?_)
    ·
      refine po_n (fun n8 _ => ?_)
      refine po_i (fun _ => ?_) (fun _ => ?_)
      ·
        exact d_k_Mo_multiply_78 q0 ih19 x3 x5 x7 x9 n8 (0 : Int32) q h_ih19 hq
      ·
        exact d_k_Mo_multiply_78 q0 ih19 x3 x5 x7 x9 n8 (1 : Int32) q h_ih19 hq
    ·
      exact d_k_Mo_multiply_108 q0 ih19 x3 x5 x7 x9 q h_ih19 hq
set_option maxHeartbeats 4000000 in
set_option maxRecDepth 100000 in
theorem m_k_Mo_multiply_19 (q0 : z_Sg) (x3 : Int64) (x5 : Int64) (x7 : Int64) (x9 : Int32) (q : z_Sg) (hq : z_pk q = z_pk q0) : z_po (k_Mo_multiply_19 x3 x5 x7 x9 q) (fun o : z_Sg => z_pk o = z_pk q0) := by
  unfold k_Mo_multiply_19
  exact po_l (fun a : Int64 × Int64 × Int64 × Int32 × z_Sg => z_pk a.2.2.2.2 = z_pk q0) (fun ih19 a ha hih => m_kb_Mo_multiply_19 q0 ih19 a.1 a.2.1 a.2.2.1 a.2.2.2.1 a.2.2.2.2  hih ha) _ _ hq
set_option maxHeartbeats 4000000 in
set_option maxRecDepth 100000 in
theorem d_k_Mo_multiply_19 (q0 : z_Sg) (x3 : Int64) (x5 : Int64) (x7 : Int64) (x9 : Int32) (q : z_Sg) (hq : z_pn q = z_pn q0) : z_po (k_Mo_multiply_19 x3 x5 x7 x9 q) (fun o : z_Sg => z_pn o = z_pn q0) := by
  unfold k_Mo_multiply_19
  exact po_l (fun a : Int64 × Int64 × Int64 × Int32 × z_Sg => z_pn a.2.2.2.2 = z_pn q0) (fun ih19 a ha hih => d_kb_Mo_multiply_19 q0 ih19 a.1 a.2.1 a.2.2.1 a.2.2.2.1 a.2.2.2.2  hih ha) _ _ hq
set_option maxHeartbeats 4000000 in
set_option maxRecDepth 100000 in
theorem m_f_Mo_multiply (q0 : z_Sg) (x1 : Int64) (x3 : Int64) (q : z_Sg) (hq : z_pk q = z_pk q0) : z_po (f_Mo_multiply x1 x3 q) (fun o : z_Sg => z_pk o = z_pk q0) := by
  unfold f_Mo_multiply
  refine po_n (fun q1 e_q1 => ?_)
  have h_q1 : z_pk q1 = z_pk q0 := by rw [e_q1]; exact hq
  refine po_n (fun q2 e_q2 => ?_)
  have h_q2 : z_pk q2 = z_pk q0 := by rw [e_q2]; exact h_q1
  exact m_k_Mo_multiply_19 q0 x3 (0 : Int64) x1 (0 : Int32) q2 h_q2
set_option maxHeartbeats 4000000 in
set_option maxRecDepth 100000 in
theorem d_f_Mo_multiply (q0 : z_Sg) (x1 : Int64) (x3 : Int64) (q : z_Sg) (hq : z_pn q = z_pn q0) : z_po (f_Mo_multiply x1 x3 q) (fun o : z_Sg => z_pn o = z_pn q0) := by
  unfold f_Mo_multiply
  refine po_n (fun q1 e_q1 => ?_)
  have h_q1 : z_pn q1 = z_pn q0 := by rw [e_q1]; exact hq
  refine po_n (fun q2 e_q2 => ?_)
  have h_q2 : z_pn q2 = z_pn q0 := by rw [e_q2]; exact h_q1
  exact d_k_Mo_multiply_19 q0 x3 (0 : Int64) x1 (0 : Int32) q2 h_q2
set_option maxHeartbeats 4000000 in
set_option maxRecDepth 100000 in
theorem m_f_Mo_muchFlags (q0 : z_Sg) (x1 : Int32) (q : z_Sg) (hq : z_pk q = z_pk q0) : z_po (f_Mo_muchFlags x1 q) (fun o : z_Sg => z_pk o = z_pk q0) := by
  unfold f_Mo_muchFlags
  refine po_g (fun _ => ?_)
  refine po_n (fun q2 e_q2 => ?_)
  have h_q2 : z_pk q2 = z_pk q0 := by rw [e_q2]; exact hq
  refine po_g (fun _ => ?_)
  refine po_n (fun q4 e_q4 => ?_)
  have h_q4 : z_pk q4 = z_pk q0 := by rw [e_q4]; exact h_q2
  refine po_b (m_f_Mo_leave q0 (4 : Int32) q4 h_q4) (fun r5 h_r5 => ?_)
  refine po_b (m_f_Mo_leave q0 (3 : Int32) r5 h_r5) (fun r6 h_r6 => ?_)
  refine po_b (m_f_Mo_leave q0 (2 : Int32) r6 h_r6) (fun r7 h_r7 => ?_)
  refine po_b (m_f_Mo_leave q0 (1 : Int32) r7 h_r7) (fun r8 h_r8 => ?_)
  exact po_s h_r8
set_option maxHeartbeats 4000000 in
set_option maxRecDepth 100000 in
theorem d_f_Mo_muchFlags (q0 : z_Sg) (x1 : Int32) (q : z_Sg) (hq : z_pn q = z_pn q0) : z_po (f_Mo_muchFlags x1 q) (fun o : z_Sg => z_pn o = z_pn q0) := by
  unfold f_Mo_muchFlags
  refine po_g (fun _ => ?_)
  refine po_n (fun q2 e_q2 => ?_)
  have h_q2 : z_pn q2 = z_pn q0 := by rw [e_q2]; exact hq
  refine po_g (fun _ => ?_)
  refine po_n (fun q4 e_q4 => ?_)
  have h_q4 : z_pn q4 = z_pn q0 := by rw [e_q4]; exact h_q2
  refine po_b (d_f_Mo_leave q0 (4 : Int32) q4 h_q4) (fun r5 h_r5 => ?_)
  refine po_b (d_f_Mo_leave q0 (3 : Int32) r5 h_r5) (fun r6 h_r6 => ?_)
  refine po_b (d_f_Mo_leave q0 (2 : Int32) r6 h_r6) (fun r7 h_r7 => ?_)
  refine po_b (d_f_Mo_leave q0 (1 : Int32) r7 h_r7) (fun r8 h_r8 => ?_)
  exact po_s h_r8
set_option maxHeartbeats 4000000 in
set_option maxRecDepth 100000 in
theorem m_k_Mo_multiplySigned_57 (q0 : z_Sg) (q : z_Sg) (hq : z_pk q = z_pk q0) : z_po (k_Mo_multiplySigned_57 q) (fun o : z_Sg => z_pk o = z_pk q0) := by
  unfold k_Mo_multiplySigned_57
  exact po_s hq
set_option maxHeartbeats 4000000 in
set_option maxRecDepth 100000 in
theorem d_k_Mo_multiplySigned_57 (q0 : z_Sg) (q : z_Sg) (hq : z_pn q = z_pn q0) : z_po (k_Mo_multiplySigned_57 q) (fun o : z_Sg => z_pn o = z_pn q0) := by
  unfold k_Mo_multiplySigned_57
  exact po_s hq
set_option maxHeartbeats 4000000 in
set_option maxRecDepth 100000 in
theorem m_k_Mo_multiplySigned_50 (q0 : z_Sg) (t0 : Int32) (t1 : Int32) (q : z_Sg) (hq : z_pk q = z_pk q0) : z_po (k_Mo_multiplySigned_50 t0 t1 q) (fun o : z_Sg => z_pk o = z_pk q0) := by
  unfold k_Mo_multiplySigned_50
  refine po_i (fun _ => ?_) (fun _ => ?_)
  ·
    exact m_k_Mo_multiplySigned_57 q0 q hq
  ·
    refine po_b (m_f_Mo_turnSign q0 q hq) (fun r7 h_r7 => ?_)
    exact m_k_Mo_multiplySigned_57 q0 r7 h_r7
set_option maxHeartbeats 4000000 in
set_option maxRecDepth 100000 in
theorem d_k_Mo_multiplySigned_50 (q0 : z_Sg) (t0 : Int32) (t1 : Int32) (q : z_Sg) (hq : z_pn q = z_pn q0) : z_po (k_Mo_multiplySigned_50 t0 t1 q) (fun o : z_Sg => z_pn o = z_pn q0) := by
  unfold k_Mo_multiplySigned_50
  refine po_i (fun _ => ?_) (fun _ => ?_)
  ·
    exact d_k_Mo_multiplySigned_57 q0 q hq
  ·
    refine po_b (d_f_Mo_turnSign q0 q hq) (fun r7 h_r7 => ?_)
    exact d_k_Mo_multiplySigned_57 q0 r7 h_r7
set_option maxHeartbeats 4000000 in
set_option maxRecDepth 100000 in
theorem m_k_Mo_multiplySigned_39 (q0 : z_Sg) (x3 : Int64) (t0 : Int32) (q : z_Sg) (hq : z_pk q = z_pk q0) : z_po (k_Mo_multiplySigned_39 x3 t0 q) (fun o : z_Sg => z_pk o = z_pk q0) := by
  unfold k_Mo_multiplySigned_39
  refine po_i (fun _ => ?_) (fun _ => ?_)
  ·
    exact m_k_Mo_multiplySigned_50 q0 t0 (0 : Int32) q hq
  ·
    exact m_k_Mo_multiplySigned_50 q0 t0 (1 : Int32) q hq
set_option maxHeartbeats 4000000 in
set_option maxRecDepth 100000 in
theorem d_k_Mo_multiplySigned_39 (q0 : z_Sg) (x3 : Int64) (t0 : Int32) (q : z_Sg) (hq : z_pn q = z_pn q0) : z_po (k_Mo_multiplySigned_39 x3 t0 q) (fun o : z_Sg => z_pn o = z_pn q0) := by
  unfold k_Mo_multiplySigned_39
  refine po_i (fun _ => ?_) (fun _ => ?_)
  ·
    exact d_k_Mo_multiplySigned_50 q0 t0 (0 : Int32) q hq
  ·
    exact d_k_Mo_multiplySigned_50 q0 t0 (1 : Int32) q hq
set_option maxHeartbeats 4000000 in
set_option maxRecDepth 100000 in
theorem m_k_Mo_multiplySigned_25 (q0 : z_Sg) (x1 : Int64) (x3 : Int64) (t1 : Int64) (t2 : Int64) (q : z_Sg) (hq : z_pk q = z_pk q0) : z_po (k_Mo_multiplySigned_25 x1 x3 t1 t2 q) (fun o : z_Sg => z_pk o = z_pk q0) := by
  unfold k_Mo_multiplySigned_25
  refine po_b (m_f_Mo_multiply q0 t1 t2 q hq) (fun r3 h_r3 => ?_)
  refine po_i (fun _ => ?_) (fun _ => ?_)
  ·
    exact m_k_Mo_multiplySigned_39 q0 x3 (0 : Int32) r3 h_r3
  ·
    exact m_k_Mo_multiplySigned_39 q0 x3 (1 : Int32) r3 h_r3
set_option maxHeartbeats 4000000 in
set_option maxRecDepth 100000 in
theorem d_k_Mo_multiplySigned_25 (q0 : z_Sg) (x1 : Int64) (x3 : Int64) (t1 : Int64) (t2 : Int64) (q : z_Sg) (hq : z_pn q = z_pn q0) : z_po (k_Mo_multiplySigned_25 x1 x3 t1 t2 q) (fun o : z_Sg => z_pn o = z_pn q0) := by
  unfold k_Mo_multiplySigned_25
  refine po_b (d_f_Mo_multiply q0 t1 t2 q hq) (fun r3 h_r3 => ?_)
  refine po_i (fun _ => ?_) (fun _ => ?_)
  ·
    exact d_k_Mo_multiplySigned_39 q0 x3 (0 : Int32) r3 h_r3
  ·
    exact d_k_Mo_multiplySigned_39 q0 x3 (1 : Int32) r3 h_r3
set_option maxHeartbeats 4000000 in
set_option maxRecDepth 100000 in
theorem m_k_Mo_multiplySigned_13 (q0 : z_Sg) (x1 : Int64) (x3 : Int64) (t1 : Int64) (q : z_Sg) (hq : z_pk q = z_pk q0) : z_po (k_Mo_multiplySigned_13 x1 x3 t1 q) (fun o : z_Sg => z_pk o = z_pk q0) := by
  unfold k_Mo_multiplySigned_13
  refine po_i (fun _ => ?_) (fun _ => ?_)
  ·
    exact m_k_Mo_multiplySigned_25 q0 x1 x3 t1 x3 q hq
  ·
    exact m_k_Mo_multiplySigned_25 q0 x1 x3 t1 (-x3) q hq
set_option maxHeartbeats 4000000 in
set_option maxRecDepth 100000 in
theorem d_k_Mo_multiplySigned_13 (q0 : z_Sg) (x1 : Int64) (x3 : Int64) (t1 : Int64) (q : z_Sg) (hq : z_pn q = z_pn q0) : z_po (k_Mo_multiplySigned_13 x1 x3 t1 q) (fun o : z_Sg => z_pn o = z_pn q0) := by
  unfold k_Mo_multiplySigned_13
  refine po_i (fun _ => ?_) (fun _ => ?_)
  ·
    exact d_k_Mo_multiplySigned_25 q0 x1 x3 t1 x3 q hq
  ·
    exact d_k_Mo_multiplySigned_25 q0 x1 x3 t1 (-x3) q hq
set_option maxHeartbeats 4000000 in
set_option maxRecDepth 100000 in
theorem m_f_Mo_multiplySigned (q0 : z_Sg) (x1 : Int64) (x3 : Int64) (q : z_Sg) (hq : z_pk q = z_pk q0) : z_po (f_Mo_multiplySigned x1 x3 q) (fun o : z_Sg => z_pk o = z_pk q0) := by
  unfold f_Mo_multiplySigned
  refine po_i (fun _ => ?_) (fun _ => ?_)
  ·
    exact m_k_Mo_multiplySigned_13 q0 x1 x3 x1 q hq
  ·
    exact m_k_Mo_multiplySigned_13 q0 x1 x3 (-x1) q hq
set_option maxHeartbeats 4000000 in
set_option maxRecDepth 100000 in
theorem d_f_Mo_multiplySigned (q0 : z_Sg) (x1 : Int64) (x3 : Int64) (q : z_Sg) (hq : z_pn q = z_pn q0) : z_po (f_Mo_multiplySigned x1 x3 q) (fun o : z_Sg => z_pn o = z_pn q0) := by
  unfold f_Mo_multiplySigned
  refine po_i (fun _ => ?_) (fun _ => ?_)
  ·
    exact d_k_Mo_multiplySigned_13 q0 x1 x3 x1 q hq
  ·
    exact d_k_Mo_multiplySigned_13 q0 x1 x3 (-x1) q hq
set_option maxHeartbeats 4000000 in
set_option maxRecDepth 100000 in
theorem m_k_Mo_multiplyOperand_158 (q0 : z_Sg) (t1 : Int32) (q : z_Sg) (hq : z_pk q = z_pk q0) : z_po (k_Mo_multiplyOperand_158 t1 q) (fun o : z_Sg => z_pk o = z_pk q0) := by
  unfold k_Mo_multiplyOperand_158
  refine po_b (m_f_Mo_muchFlags q0 t1 q hq) (fun r12 h_r12 => ?_)
  exact po_s h_r12
set_option maxHeartbeats 4000000 in
set_option maxRecDepth 100000 in
theorem d_k_Mo_multiplyOperand_158 (q0 : z_Sg) (t1 : Int32) (q : z_Sg) (hq : z_pn q = z_pn q0) : z_po (k_Mo_multiplyOperand_158 t1 q) (fun o : z_Sg => z_pn o = z_pn q0) := by
  unfold k_Mo_multiplyOperand_158
  refine po_b (d_f_Mo_muchFlags q0 t1 q hq) (fun r12 h_r12 => ?_)
  exact po_s h_r12
set_option maxHeartbeats 4000000 in
set_option maxRecDepth 100000 in
theorem m_k_Mo_multiplyOperand_149 (q0 : z_Sg) (t1 : Int64) (t2 : Int64) (q : z_Sg) (hq : z_pk q = z_pk q0) : z_po (k_Mo_multiplyOperand_149 t1 t2 q) (fun o : z_Sg => z_pk o = z_pk q0) := by
  unfold k_Mo_multiplyOperand_149
  refine po_i (fun _ => ?_) (fun _ => ?_)
  ·
    exact m_k_Mo_multiplyOperand_158 q0 (0 : Int32) q hq
  ·
    exact m_k_Mo_multiplyOperand_158 q0 (1 : Int32) q hq
set_option maxHeartbeats 4000000 in
set_option maxRecDepth 100000 in
theorem d_k_Mo_multiplyOperand_149 (q0 : z_Sg) (t1 : Int64) (t2 : Int64) (q : z_Sg) (hq : z_pn q = z_pn q0) : z_po (k_Mo_multiplyOperand_149 t1 t2 q) (fun o : z_Sg => z_pn o = z_pn q0) := by
  unfold k_Mo_multiplyOperand_149
  refine po_i (fun _ => ?_) (fun _ => ?_)
  ·
    exact d_k_Mo_multiplyOperand_158 q0 (0 : Int32) q hq
  ·
    exact d_k_Mo_multiplyOperand_158 q0 (1 : Int32) q hq
set_option maxHeartbeats 4000000 in
set_option maxRecDepth 100000 in
theorem m_k_Mo_multiplyOperand_148 (q0 : z_Sg) (t1 : Int64) (q : z_Sg) (hq : z_pk q = z_pk q0) : z_po (k_Mo_multiplyOperand_148 t1 q) (fun o : z_Sg => z_pk o = z_pk q0) := by
  unfold k_Mo_multiplyOperand_148
  exact m_k_Mo_multiplyOperand_149 q0 t1 (0 : Int64) q hq
set_option maxHeartbeats 4000000 in
set_option maxRecDepth 100000 in
theorem d_k_Mo_multiplyOperand_148 (q0 : z_Sg) (t1 : Int64) (q : z_Sg) (hq : z_pn q = z_pn q0) : z_po (k_Mo_multiplyOperand_148 t1 q) (fun o : z_Sg => z_pn o = z_pn q0) := by
  unfold k_Mo_multiplyOperand_148
  exact d_k_Mo_multiplyOperand_149 q0 t1 (0 : Int64) q hq
set_option maxHeartbeats 4000000 in
set_option maxRecDepth 100000 in
theorem m_k_Mo_multiplyOperand_121 (q0 : z_Sg) (x3 : Int32) (x4 : Int32) (x7 : Int64) (x9 : Int64) (q : z_Sg) (hq : z_pk q = z_pk q0) : z_po (k_Mo_multiplyOperand_121 x3 x4 x7 x9 q) (fun o : z_Sg => z_pk o = z_pk q0) := by
  unfold k_Mo_multiplyOperand_121
  refine po_i (fun _ => ?_) (fun _ => ?_)
  ·
    exact m_k_Mo_multiplyOperand_148 q0 x9 q hq
  ·
    refine po_b (R := fun _ => True) (fun _ _ => trivial) (fun r13 _ => ?_)
    refine po_i (fun _ => ?_) (fun _ => ?_)
    ·
      exact m_k_Mo_multiplyOperand_148 q0 x9 q hq
    ·
      refine po_b (R := fun _ => True) (fun _ _ => trivial) (fun r15 _ => ?_)
      exact m_k_Mo_multiplyOperand_149 q0 x9 r15 q hq
set_option maxHeartbeats 4000000 in
set_option maxRecDepth 100000 in
theorem d_k_Mo_multiplyOperand_121 (q0 : z_Sg) (x3 : Int32) (x4 : Int32) (x7 : Int64) (x9 : Int64) (q : z_Sg) (hq : z_pn q = z_pn q0) : z_po (k_Mo_multiplyOperand_121 x3 x4 x7 x9 q) (fun o : z_Sg => z_pn o = z_pn q0) := by
  unfold k_Mo_multiplyOperand_121
  refine po_i (fun _ => ?_) (fun _ => ?_)
  ·
    exact d_k_Mo_multiplyOperand_148 q0 x9 q hq
  ·
    refine po_b (R := fun _ => True) (fun _ _ => trivial) (fun r13 _ => ?_)
    refine po_i (fun _ => ?_) (fun _ => ?_)
    ·
      exact d_k_Mo_multiplyOperand_148 q0 x9 q hq
    ·
      refine po_b (R := fun _ => True) (fun _ _ => trivial) (fun r15 _ => ?_)
      exact d_k_Mo_multiplyOperand_149 q0 x9 r15 q hq
set_option maxHeartbeats 4000000 in
set_option maxRecDepth 100000 in
theorem m_k_Mo_multiplyOperand_108 (q0 : z_Sg) (x3 : Int32) (x4 : Int32) (x7 : Int64) (x9 : Int64) (q : z_Sg) (hq : z_pk q = z_pk q0) : z_po (k_Mo_multiplyOperand_108 x3 x4 x7 x9 q) (fun o : z_Sg => z_pk o = z_pk q0) := by
  unfold k_Mo_multiplyOperand_108
  refine po_i (fun _ => ?_) (fun _ => ?_)
  ·
    exact m_k_Mo_multiplyOperand_121 q0 x3 x4 x7 x9 q hq
  ·
    refine po_b (m_f_Mo_put8 q0 (2 : Int32) x3 x9 q hq) (fun r16 h_r16 => ?_)
    exact m_k_Mo_multiplyOperand_121 q0 x3 x4 x7 x9 r16 h_r16
set_option maxHeartbeats 4000000 in
set_option maxRecDepth 100000 in
theorem d_k_Mo_multiplyOperand_108 (q0 : z_Sg) (x3 : Int32) (x4 : Int32) (x7 : Int64) (x9 : Int64) (q : z_Sg) (hq : z_pn q = z_pn q0) : z_po (k_Mo_multiplyOperand_108 x3 x4 x7 x9 q) (fun o : z_Sg => z_pn o = z_pn q0) := by
  unfold k_Mo_multiplyOperand_108
  refine po_i (fun _ => ?_) (fun _ => ?_)
  ·
    exact d_k_Mo_multiplyOperand_121 q0 x3 x4 x7 x9 q hq
  ·
    refine po_b (d_f_Mo_put8 q0 (2 : Int32) x3 x9 q hq) (fun r16 h_r16 => ?_)
    exact d_k_Mo_multiplyOperand_121 q0 x3 x4 x7 x9 r16 h_r16
set_option maxHeartbeats 4000000 in
set_option maxRecDepth 100000 in
theorem m_k_Mo_multiplyOperand_95 (q0 : z_Sg) (x3 : Int32) (x4 : Int32) (x7 : Int64) (x9 : Int64) (q : z_Sg) (hq : z_pk q = z_pk q0) : z_po (k_Mo_multiplyOperand_95 x3 x4 x7 x9 q) (fun o : z_Sg => z_pk o = z_pk q0) := by
  unfold k_Mo_multiplyOperand_95
  refine po_i (fun _ => ?_) (fun _ => ?_)
  ·
    exact m_k_Mo_multiplyOperand_108 q0 x3 x4 x7 x9 q hq
  ·
    refine po_b (m_f_Mo_put8 q0 (0 : Int32) x3 x7 q hq) (fun r17 h_r17 => ?_)
    exact m_k_Mo_multiplyOperand_108 q0 x3 x4 x7 x9 r17 h_r17
set_option maxHeartbeats 4000000 in
set_option maxRecDepth 100000 in
theorem d_k_Mo_multiplyOperand_95 (q0 : z_Sg) (x3 : Int32) (x4 : Int32) (x7 : Int64) (x9 : Int64) (q : z_Sg) (hq : z_pn q = z_pn q0) : z_po (k_Mo_multiplyOperand_95 x3 x4 x7 x9 q) (fun o : z_Sg => z_pn o = z_pn q0) := by
  unfold k_Mo_multiplyOperand_95
  refine po_i (fun _ => ?_) (fun _ => ?_)
  ·
    exact d_k_Mo_multiplyOperand_108 q0 x3 x4 x7 x9 q hq
  ·
    refine po_b (d_f_Mo_put8 q0 (0 : Int32) x3 x7 q hq) (fun r17 h_r17 => ?_)
    exact d_k_Mo_multiplyOperand_108 q0 x3 x4 x7 x9 r17 h_r17
set_option maxHeartbeats 4000000 in
set_option maxRecDepth 100000 in
theorem m_k_Mo_multiplyOperand_74 (q0 : z_Sg) (x3 : Int32) (x4 : Int32) (x7 : Int64) (t0 : Int64) (q : z_Sg) (hq : z_pk q = z_pk q0) : z_po (k_Mo_multiplyOperand_74 x3 x4 x7 t0 q) (fun o : z_Sg => z_pk o = z_pk q0) := by
  unfold k_Mo_multiplyOperand_74
  refine po_i (fun _ => ?_) (fun _ => ?_)
  ·
    refine po_b (m_f_Mo_put8 q0 (0 : Int32) (2 : Int32) ((z_lshl t0 (8 : Int32)) ||| x7) q hq) (fun r18 h_r18 => ?_)
    exact m_k_Mo_multiplyOperand_95 q0 x3 x4 x7 t0 r18 h_r18
  ·
    exact m_k_Mo_multiplyOperand_95 q0 x3 x4 x7 t0 q hq
set_option maxHeartbeats 4000000 in
set_option maxRecDepth 100000 in
theorem d_k_Mo_multiplyOperand_74 (q0 : z_Sg) (x3 : Int32) (x4 : Int32) (x7 : Int64) (t0 : Int64) (q : z_Sg) (hq : z_pn q = z_pn q0) : z_po (k_Mo_multiplyOperand_74 x3 x4 x7 t0 q) (fun o : z_Sg => z_pn o = z_pn q0) := by
  unfold k_Mo_multiplyOperand_74
  refine po_i (fun _ => ?_) (fun _ => ?_)
  ·
    refine po_b (d_f_Mo_put8 q0 (0 : Int32) (2 : Int32) ((z_lshl t0 (8 : Int32)) ||| x7) q hq) (fun r18 h_r18 => ?_)
    exact d_k_Mo_multiplyOperand_95 q0 x3 x4 x7 t0 r18 h_r18
  ·
    exact d_k_Mo_multiplyOperand_95 q0 x3 x4 x7 t0 q hq
set_option maxHeartbeats 4000000 in
set_option maxRecDepth 100000 in
theorem m_k_Mo_multiplyOperand_38 (q0 : z_Sg) (x3 : Int32) (x4 : Int32) (q : z_Sg) (hq : z_pk q = z_pk q0) : z_po (k_Mo_multiplyOperand_38 x3 x4 q) (fun o : z_Sg => z_pk o = z_pk q0) := by
  unfold k_Mo_multiplyOperand_38
  refine po_b (R := fun _ => True) (fun _ _ => trivial) (fun r4 _ => ?_)
  refine po_i (fun _ => ?_) (fun _ => ?_)
  ·
    exact m_k_Mo_multiplyOperand_74 q0 x3 x4 r4 (z_gL q 9) q hq
  ·
    refine po_b (R := fun _ => True) (fun _ _ => trivial) (fun r6 _ => ?_)
    exact m_k_Mo_multiplyOperand_74 q0 x3 x4 r4 r6 q hq
set_option maxHeartbeats 4000000 in
set_option maxRecDepth 100000 in
theorem d_k_Mo_multiplyOperand_38 (q0 : z_Sg) (x3 : Int32) (x4 : Int32) (q : z_Sg) (hq : z_pn q = z_pn q0) : z_po (k_Mo_multiplyOperand_38 x3 x4 q) (fun o : z_Sg => z_pn o = z_pn q0) := by
  unfold k_Mo_multiplyOperand_38
  refine po_b (R := fun _ => True) (fun _ _ => trivial) (fun r4 _ => ?_)
  refine po_i (fun _ => ?_) (fun _ => ?_)
  ·
    exact d_k_Mo_multiplyOperand_74 q0 x3 x4 r4 (z_gL q 9) q hq
  ·
    refine po_b (R := fun _ => True) (fun _ _ => trivial) (fun r6 _ => ?_)
    exact d_k_Mo_multiplyOperand_74 q0 x3 x4 r4 r6 q hq
set_option maxHeartbeats 4000000 in
set_option maxRecDepth 100000 in
theorem m_f_Mo_multiplyOperand (q0 : z_Sg) (x1 : Int64) (x3 : Int32) (x4 : Int32) (q : z_Sg) (hq : z_pk q = z_pk q0) : z_po (f_Mo_multiplyOperand x1 x3 x4 q) (fun o : z_Sg => z_pk o = z_pk q0) := by
  unfold f_Mo_multiplyOperand
  refine po_b (R := fun _ => True) (fun _ _ => trivial) (fun r1 _ => ?_)
  refine po_i (fun _ => ?_) (fun _ => ?_)
  ·
    refine po_b (m_f_Mo_multiply q0 r1 x1 q hq) (fun r3 h_r3 => ?_)
    exact m_k_Mo_multiplyOperand_38 q0 x3 x4 r3 h_r3
  ·
    refine po_b (R := fun _ => True) (fun _ _ => trivial) (fun r19 _ => ?_)
    refine po_b (R := fun _ => True) (fun _ _ => trivial) (fun r20 _ => ?_)
    refine po_b (m_f_Mo_multiplySigned q0 r19 r20 q hq) (fun r21 h_r21 => ?_)
    exact m_k_Mo_multiplyOperand_38 q0 x3 x4 r21 h_r21
set_option maxHeartbeats 4000000 in
set_option maxRecDepth 100000 in
theorem d_f_Mo_multiplyOperand (q0 : z_Sg) (x1 : Int64) (x3 : Int32) (x4 : Int32) (q : z_Sg) (hq : z_pn q = z_pn q0) : z_po (f_Mo_multiplyOperand x1 x3 x4 q) (fun o : z_Sg => z_pn o = z_pn q0) := by
  unfold f_Mo_multiplyOperand
  refine po_b (R := fun _ => True) (fun _ _ => trivial) (fun r1 _ => ?_)
  refine po_i (fun _ => ?_) (fun _ => ?_)
  ·
    refine po_b (d_f_Mo_multiply q0 r1 x1 q hq) (fun r3 h_r3 => ?_)
    exact d_k_Mo_multiplyOperand_38 q0 x3 x4 r3 h_r3
  ·
    refine po_b (R := fun _ => True) (fun _ _ => trivial) (fun r19 _ => ?_)
    refine po_b (R := fun _ => True) (fun _ _ => trivial) (fun r20 _ => ?_)
    refine po_b (d_f_Mo_multiplySigned q0 r19 r20 q hq) (fun r21 h_r21 => ?_)
    exact d_k_Mo_multiplyOperand_38 q0 x3 x4 r21 h_r21
set_option maxHeartbeats 4000000 in
set_option maxRecDepth 100000 in
theorem m_k_Mo_unary_190 (q0 : z_Sg) (q : z_Sg) (hq : z_pk q = z_pk q0) : z_po (k_Mo_unary_190 q) (fun o : z_Sg => z_pk o = z_pk q0) := by
  unfold k_Mo_unary_190
  exact po_s hq
set_option maxHeartbeats 4000000 in
set_option maxRecDepth 100000 in
theorem d_k_Mo_unary_190 (q0 : z_Sg) (q : z_Sg) (hq : z_pn q = z_pn q0) : z_po (k_Mo_unary_190 q) (fun o : z_Sg => z_pn o = z_pn q0) := by
  unfold k_Mo_unary_190
  exact po_s hq
set_option maxHeartbeats 4000000 in
set_option maxRecDepth 100000 in
theorem m_k_Mo_unary_187 (q0 : z_Sg) (t1 : Int64) (t2 : Int32) (t3 : Int32) (q : z_Sg) (hq : z_pk q = z_pk q0) : z_po (k_Mo_unary_187 t1 t2 t3 q) (fun o : z_Sg => z_pk o = z_pk q0) := by
  unfold k_Mo_unary_187
  refine po_b (m_f_Mo_divide q0 t1 t2 t3 q hq) (fun r11 h_r11 => ?_)
  exact m_k_Mo_unary_190 q0 r11 h_r11
set_option maxHeartbeats 4000000 in
set_option maxRecDepth 100000 in
theorem d_k_Mo_unary_187 (q0 : z_Sg) (t1 : Int64) (t2 : Int32) (t3 : Int32) (q : z_Sg) (hq : z_pn q = z_pn q0) (hd : ¬ z_gI q0 4 = -1) : z_po (k_Mo_unary_187 t1 t2 t3 q) (fun o : z_Sg => z_pn o = z_pn q0) := by
  unfold k_Mo_unary_187
  refine po_b (d_f_Mo_divide q0 t1 t2 t3 q hq hd) (fun r11 h_r11 => ?_)
  exact d_k_Mo_unary_190 q0 r11 h_r11
set_option maxHeartbeats 4000000 in
set_option maxRecDepth 100000 in
theorem m_k_Mo_unary_159 (q0 : z_Sg) (t1 : Int64) (t2 : Int32) (t3 : Int32) (q : z_Sg) (hq : z_pk q = z_pk q0) : z_po (k_Mo_unary_159 t1 t2 t3 q) (fun o : z_Sg => z_pk o = z_pk q0) := by
  unfold k_Mo_unary_159
  refine po_b (m_f_Mo_multiplyOperand q0 t1 t2 t3 q hq) (fun r14 h_r14 => ?_)
  exact m_k_Mo_unary_190 q0 r14 h_r14
set_option maxHeartbeats 4000000 in
set_option maxRecDepth 100000 in
theorem d_k_Mo_unary_159 (q0 : z_Sg) (t1 : Int64) (t2 : Int32) (t3 : Int32) (q : z_Sg) (hq : z_pn q = z_pn q0) : z_po (k_Mo_unary_159 t1 t2 t3 q) (fun o : z_Sg => z_pn o = z_pn q0) := by
  unfold k_Mo_unary_159
  refine po_b (d_f_Mo_multiplyOperand q0 t1 t2 t3 q hq) (fun r14 h_r14 => ?_)
  exact d_k_Mo_unary_190 q0 r14 h_r14
set_option maxHeartbeats 4000000 in
set_option maxRecDepth 100000 in
theorem m_k_Mo_unary_18 (q0 : z_Sg) (x1 : Int32) (q : z_Sg) (hq : z_pk q = z_pk q0) : z_po (k_Mo_unary_18 x1 q) (fun o : z_Sg => z_pk o = z_pk q0) := by
  unfold k_Mo_unary_18
  refine po_b (m_f_Mo_takePlace q0 q hq) (fun r3 h_r3 => ?_)
  refine po_n (fun q4 e_q4 => ?_)
  have h_q4 : z_pk q4 = z_pk q0 := by rw [e_q4]; exact h_r3
  refine po_i (fun _ => ?_) (fun _ => ?_)
  ·
    refine po_b (R := fun _ => True) (fun _ _ => trivial) (fun r20 _ => ?_)
    refine po_b (m_f_Mo_number q0 r20 q4 h_q4) (fun r21 h_r21 => ?_)
    refine po_b (R := fun _ => True) (fun _ _ => trivial) (fun r22 _ => ?_)
    refine po_b (m_f_Mo_e q0 x1 (0 : Int32) r21.2 h_r21) (fun r23 h_r23 => ?_)
    refine po_b (m_f_Mo_logic q0 (r23.1 &&& r22) x1 r23.2 h_r23) (fun r24 h_r24 => ?_)
    exact m_k_Mo_unary_190 q0 r24.2 h_r24
  ·
    refine po_i (fun _ => ?_) (fun _ => ?_)
    ·
      refine po_b (m_f_Mo_e q0 x1 (1 : Int32) q4 h_q4) (fun r18 h_r18 => ?_)
      refine po_b (m_f_Mo_setE q0 x1 (r18.1 ^^^ (-1 : Int64)) r18.2 h_r18) (fun r19 h_r19 => ?_)
      exact m_k_Mo_unary_190 q0 r19 h_r19
    ·
      refine po_i (fun _ => ?_) (fun _ => ?_)
      ·
        refine po_b (m_f_Mo_e q0 x1 (1 : Int32) q4 h_q4) (fun r15 h_r15 => ?_)
        refine po_b (m_f_Mo_add q0 (0 : Int64) r15.1 (0 : Int32) (1 : Int32) x1 r15.2 h_r15) (fun r16 h_r16 => ?_)
        refine po_b (m_f_Mo_setE q0 x1 r16.1 r16.2 h_r16) (fun r17 h_r17 => ?_)
        exact m_k_Mo_unary_190 q0 r17 h_r17
      ·
        refine po_i (fun _ => ?_) (fun _ => ?_)
        ·
          refine po_b (m_f_Mo_e q0 x1 (0 : Int32) q4 h_q4) (fun r9 h_r9 => ?_)
          refine po_i (fun _ => ?_) (fun _ => ?_)
          ·
            exact m_k_Mo_unary_187 q0 r9.1 x1 (1 : Int32) r9.2 h_r9
          ·
            exact m_k_Mo_unary_187 q0 r9.1 x1 (0 : Int32) r9.2 h_r9
        ·
          refine po_b (m_f_Mo_e q0 x1 (0 : Int32) q4 h_q4) (fun r12 h_r12 => ?_)
          refine po_i (fun _ => ?_) (fun _ => ?_)
          ·
            exact m_k_Mo_unary_159 q0 r12.1 x1 (1 : Int32) r12.2 h_r12
          ·
            exact m_k_Mo_unary_159 q0 r12.1 x1 (0 : Int32) r12.2 h_r12
set_option maxHeartbeats 4000000 in
set_option maxRecDepth 100000 in
theorem d_k_Mo_unary_18 (q0 : z_Sg) (x1 : Int32) (q : z_Sg) (hq : z_pn q = z_pn q0) (hd : ¬ z_gI q0 4 = -1) : z_po (k_Mo_unary_18 x1 q) (fun o : z_Sg => z_pn o = z_pn q0) := by
  unfold k_Mo_unary_18
  refine po_b (d_f_Mo_takePlace q0 q hq hd) (fun r3 h_r3 => ?_)
  refine po_n (fun q4 e_q4 => ?_)
  have h_q4 : z_pn q4 = z_pn q0 := by rw [e_q4]; exact h_r3
  refine po_i (fun _ => ?_) (fun _ => ?_)
  ·
    refine po_b (R := fun _ => True) (fun _ _ => trivial) (fun r20 _ => ?_)
    refine po_b (d_f_Mo_number q0 r20 q4 h_q4 hd) (fun r21 h_r21 => ?_)
    refine po_b (R := fun _ => True) (fun _ _ => trivial) (fun r22 _ => ?_)
    refine po_b (d_f_Mo_e q0 x1 (0 : Int32) r21.2 h_r21 hd) (fun r23 h_r23 => ?_)
    refine po_b (d_f_Mo_logic q0 (r23.1 &&& r22) x1 r23.2 h_r23) (fun r24 h_r24 => ?_)
    exact d_k_Mo_unary_190 q0 r24.2 h_r24
  ·
    refine po_i (fun _ => ?_) (fun _ => ?_)
    ·
      refine po_b (d_f_Mo_e q0 x1 (1 : Int32) q4 h_q4 hd) (fun r18 h_r18 => ?_)
      refine po_b (d_f_Mo_setE q0 x1 (r18.1 ^^^ (-1 : Int64)) r18.2 h_r18) (fun r19 h_r19 => ?_)
      exact d_k_Mo_unary_190 q0 r19 h_r19
    ·
      refine po_i (fun _ => ?_) (fun _ => ?_)
      ·
        refine po_b (d_f_Mo_e q0 x1 (1 : Int32) q4 h_q4 hd) (fun r15 h_r15 => ?_)
        refine po_b (d_f_Mo_add q0 (0 : Int64) r15.1 (0 : Int32) (1 : Int32) x1 r15.2 h_r15) (fun r16 h_r16 => ?_)
        refine po_b (d_f_Mo_setE q0 x1 r16.1 r16.2 h_r16) (fun r17 h_r17 => ?_)
        exact d_k_Mo_unary_190 q0 r17 h_r17
      ·
        refine po_i (fun _ => ?_) (fun _ => ?_)
        ·
          refine po_b (d_f_Mo_e q0 x1 (0 : Int32) q4 h_q4 hd) (fun r9 h_r9 => ?_)
          refine po_i (fun _ => ?_) (fun _ => ?_)
          ·
            exact d_k_Mo_unary_187 q0 r9.1 x1 (1 : Int32) r9.2 h_r9 hd
          ·
            exact d_k_Mo_unary_187 q0 r9.1 x1 (0 : Int32) r9.2 h_r9 hd
        ·
          refine po_b (d_f_Mo_e q0 x1 (0 : Int32) q4 h_q4 hd) (fun r12 h_r12 => ?_)
          refine po_i (fun _ => ?_) (fun _ => ?_)
          ·
            exact d_k_Mo_unary_159 q0 r12.1 x1 (1 : Int32) r12.2 h_r12
          ·
            exact d_k_Mo_unary_159 q0 r12.1 x1 (0 : Int32) r12.2 h_r12
set_option maxHeartbeats 4000000 in
set_option maxRecDepth 100000 in
theorem m_f_Mo_unary (q0 : z_Sg) (x1 : Int32) (q : z_Sg) (hq : z_pk q = z_pk q0) : z_po (f_Mo_unary x1 q) (fun o : z_Sg => z_pk o = z_pk q0) := by
  unfold f_Mo_unary
  refine po_b (m_f_Mo_takeMod q0 q hq) (fun r1 h_r1 => ?_)
  refine po_i (fun _ => ?_) (fun _ => ?_)
  ·
    refine po_b (m_f_Mo_refuse q0 (6 : Int32) r1 h_r1) (fun r25 h_r25 => ?_)
    exact m_k_Mo_unary_18 q0 x1 r25 h_r25
  ·
    exact m_k_Mo_unary_18 q0 x1 r1 h_r1
set_option maxHeartbeats 4000000 in
set_option maxRecDepth 100000 in
theorem d_f_Mo_unary (q0 : z_Sg) (x1 : Int32) (q : z_Sg) (hq : z_pn q = z_pn q0) (hd : ¬ z_gI q0 4 = -1) : z_po (f_Mo_unary x1 q) (fun o : z_Sg => z_pn o = z_pn q0) := by
  unfold f_Mo_unary
  refine po_b (d_f_Mo_takeMod q0 q hq hd) (fun r1 h_r1 => ?_)
  refine po_i (fun _ => ?_) (fun _ => ?_)
  ·
    refine po_b (d_f_Mo_refuse q0 (6 : Int32) r1 h_r1 hd) (fun r25 h_r25 => ?_)
    exact d_k_Mo_unary_18 q0 x1 r25 h_r25 hd
  ·
    exact d_k_Mo_unary_18 q0 x1 r1 h_r1 hd
set_option maxHeartbeats 4000000 in
set_option maxRecDepth 100000 in
theorem m_f_Mo_push (q0 : z_Sg) (x1 : Int64) (x3 : Int32) (q : z_Sg) (hq : z_pk q = z_pk q0) : z_po (f_Mo_push x1 x3 q) (fun o : z_Sg => z_pk o = z_pk q0) := by
  unfold f_Mo_push
  refine po_g (fun _ => ?_)
  refine po_b (m_f_Mo_lookUp q0 ((z_gM q 0 (4 : Int32).toNatClampNeg) - x3.toInt64) x3 (1 : Int32) (1 : Int32) q hq) (fun r2 h_r2 => ?_)
  refine po_i (fun _ => ?_) (fun _ => ?_)
  ·
    refine po_g (fun _ => ?_)
    refine po_g (fun _ => ?_)
    refine po_n (fun q6 e_q6 => ?_)
    have h_q6 : z_pk q6 = z_pk q0 := by rw [e_q6]; exact h_r2
    refine po_b (m_f_Mo_hold q0 x1 x3 q6 h_q6) (fun r7 h_r7 => ?_)
    exact po_s h_r7
  ·
    exact po_s h_r2
set_option maxHeartbeats 4000000 in
set_option maxRecDepth 100000 in
theorem d_f_Mo_push (q0 : z_Sg) (x1 : Int64) (x3 : Int32) (q : z_Sg) (hq : z_pn q = z_pn q0) (hd : ¬ z_gI q0 4 = -1) : z_po (f_Mo_push x1 x3 q) (fun o : z_Sg => z_pn o = z_pn q0) := by
  unfold f_Mo_push
  refine po_g (fun _ => ?_)
  refine po_b (d_f_Mo_lookUp q0 ((z_gM q 0 (4 : Int32).toNatClampNeg) - x3.toInt64) x3 (1 : Int32) (1 : Int32) q hq hd) (fun r2 h_r2 => ?_)
  refine po_f (pn_d h_r2 hd) ?_
  exact po_s h_r2
set_option maxHeartbeats 4000000 in
set_option maxRecDepth 100000 in
theorem m_k_Mo_jump_21 (q0 : z_Sg) (q : z_Sg) (hq : z_pk q = z_pk q0) : z_po (k_Mo_jump_21 q) (fun o : z_Sg => z_pk o = z_pk q0) := by
  unfold k_Mo_jump_21
  exact po_s hq
set_option maxHeartbeats 4000000 in
set_option maxRecDepth 100000 in
theorem d_k_Mo_jump_21 (q0 : z_Sg) (q : z_Sg) (hq : z_pn q = z_pn q0) : z_po (k_Mo_jump_21 q) (fun o : z_Sg => z_pn o = z_pn q0) := by
  unfold k_Mo_jump_21
  exact po_s hq
set_option maxHeartbeats 4000000 in
set_option maxRecDepth 100000 in
theorem m_f_Mo_jump (q0 : z_Sg) (x1 : Int64) (q : z_Sg) (hq : z_pk q = z_pk q0) : z_po (f_Mo_jump x1 q) (fun o : z_Sg => z_pk o = z_pk q0) := by
  unfold f_Mo_jump
  refine po_b (R := fun _ => True) (fun _ _ => trivial) (fun r1 _ => ?_)
  refine po_i (fun _ => ?_) (fun _ => ?_)
  ·
    refine po_n (fun q3 e_q3 => ?_)
    have h_q3 : z_pk q3 = z_pk q0 := by rw [e_q3]; exact hq
    exact m_k_Mo_jump_21 q0 q3 h_q3
  ·
    refine po_b (m_f_Mo_refuse q0 (13 : Int32) q hq) (fun r4 h_r4 => ?_)
    exact m_k_Mo_jump_21 q0 r4 h_r4
set_option maxHeartbeats 4000000 in
set_option maxRecDepth 100000 in
theorem d_f_Mo_jump (q0 : z_Sg) (x1 : Int64) (q : z_Sg) (hq : z_pn q = z_pn q0) (hd : ¬ z_gI q0 4 = -1) : z_po (f_Mo_jump x1 q) (fun o : z_Sg => z_pn o = z_pn q0) := by
  unfold f_Mo_jump
  refine po_b (R := fun _ => True) (fun _ _ => trivial) (fun r1 _ => ?_)
  refine po_i (fun _ => ?_) (fun _ => ?_)
  ·
    refine po_n (fun q3 e_q3 => ?_)
    have h_q3 : z_pn q3 = z_pn q0 := by rw [e_q3]; exact hq
    exact d_k_Mo_jump_21 q0 q3 h_q3
  ·
    refine po_b (d_f_Mo_refuse q0 (13 : Int32) q hq hd) (fun r4 h_r4 => ?_)
    exact d_k_Mo_jump_21 q0 r4 h_r4
set_option maxHeartbeats 4000000 in
set_option maxRecDepth 100000 in
theorem m_k_Mo_more_224 (q0 : z_Sg) (q : z_Sg) (hq : z_pk q = z_pk q0) : z_po (k_Mo_more_224 q) (fun o : z_Sg => z_pk o = z_pk q0) := by
  unfold k_Mo_more_224
  exact po_s hq
set_option maxHeartbeats 4000000 in
set_option maxRecDepth 100000 in
theorem d_k_Mo_more_224 (q0 : z_Sg) (q : z_Sg) (hq : z_pn q = z_pn q0) : z_po (k_Mo_more_224 q) (fun o : z_Sg => z_pn o = z_pn q0) := by
  unfold k_Mo_more_224
  exact po_s hq
set_option maxHeartbeats 4000000 in
set_option maxRecDepth 100000 in
theorem m_k_Mo_more_209 (q0 : z_Sg) (x3 : Int64) (q : z_Sg) (hq : z_pk q = z_pk q0) : z_po (k_Mo_more_209 x3 q) (fun o : z_Sg => z_pk o = z_pk q0) := by
  unfold k_Mo_more_209
  refine po_i (fun _ => ?_) (fun _ => ?_)
  ·
    refine po_b (m_f_Mo_push q0 x3 (8 : Int32) q hq) (fun r13 h_r13 => ?_)
    exact m_k_Mo_more_224 q0 r13 h_r13
  ·
    exact m_k_Mo_more_224 q0 q hq
set_option maxHeartbeats 4000000 in
set_option maxRecDepth 100000 in
theorem d_k_Mo_more_209 (q0 : z_Sg) (x3 : Int64) (q : z_Sg) (hq : z_pn q = z_pn q0) (hd : ¬ z_gI q0 4 = -1) : z_po (k_Mo_more_209 x3 q) (fun o : z_Sg => z_pn o = z_pn q0) := by
  unfold k_Mo_more_209
  refine po_i (fun _ => ?_) (fun _ => ?_)
  ·
    refine po_b (d_f_Mo_push q0 x3 (8 : Int32) q hq hd) (fun r13 h_r13 => ?_)
    exact d_k_Mo_more_224 q0 r13 h_r13
  ·
    exact d_k_Mo_more_224 q0 q hq
set_option maxHeartbeats 4000000 in
set_option maxRecDepth 100000 in
theorem m_k_Mo_more_129 (q0 : z_Sg) (x1 : Int32) (x3 : Int32) (t1 : Int64) (t2 : Int64) (t3 : Int32) (t4 : Int32) (q : z_Sg) (hq : z_pk q = z_pk q0) : z_po (k_Mo_more_129 x1 x3 t1 t2 t3 t4 q) (fun o : z_Sg => z_pk o = z_pk q0) := by
  unfold k_Mo_more_129
  refine po_b (m_f_Mo_add q0 t1 t2 t3 t4 x1 q hq) (fun r23 h_r23 => ?_)
  refine po_g (fun _ => ?_)
  refine po_n (fun q25 e_q25 => ?_)
  have h_q25 : z_pk q25 = z_pk q0 := by rw [e_q25]; exact h_r23
  refine po_b (m_f_Mo_setE q0 x1 r23.1 q25 h_q25) (fun r26 h_r26 => ?_)
  exact m_k_Mo_more_224 q0 r26 h_r26
set_option maxHeartbeats 4000000 in
set_option maxRecDepth 100000 in
theorem d_k_Mo_more_129 (q0 : z_Sg) (x1 : Int32) (x3 : Int32) (t1 : Int64) (t2 : Int64) (t3 : Int32) (t4 : Int32) (q : z_Sg) (hq : z_pn q = z_pn q0) : z_po (k_Mo_more_129 x1 x3 t1 t2 t3 t4 q) (fun o : z_Sg => z_pn o = z_pn q0) := by
  unfold k_Mo_more_129
  refine po_b (d_f_Mo_add q0 t1 t2 t3 t4 x1 q hq) (fun r23 h_r23 => ?_)
  refine po_g (fun _ => ?_)
  refine po_n (fun q25 e_q25 => ?_)
  have h_q25 : z_pn q25 = z_pn q0 := by rw [e_q25]; exact h_r23
  refine po_b (d_f_Mo_setE q0 x1 r23.1 q25 h_q25) (fun r26 h_r26 => ?_)
  exact d_k_Mo_more_224 q0 r26 h_r26
set_option maxHeartbeats 4000000 in
set_option maxRecDepth 100000 in
theorem m_k_Mo_more_65 (q0 : z_Sg) (x1 : Int32) (q : z_Sg) (hq : z_pk q = z_pk q0) : z_po (k_Mo_more_65 x1 q) (fun o : z_Sg => z_pk o = z_pk q0) := by
  unfold k_Mo_more_65
  refine po_b (m_f_Mo_takePlace q0 q hq) (fun r4 h_r4 => ?_)
  refine po_n (fun q5 e_q5 => ?_)
  have h_q5 : z_pk q5 = z_pk q0 := by rw [e_q5]; exact h_r4
  refine po_i (fun _ => ?_) (fun _ => ?_)
  ·
    refine po_i (fun _ => ?_) (fun _ => ?_)
    ·
      refine po_i (fun _ => ?_) (fun _ => ?_)
      ·
        refine po_b (R := fun _ => True) (fun _ _ => trivial) (fun r15 _ => ?_)
        refine po_b (m_f_Mo_e q0 r15 (0 : Int32) q5 h_q5) (fun r16 h_r16 => ?_)
        refine po_b (R := fun _ => True) (fun _ _ => trivial) (fun r17 _ => ?_)
        refine po_b (m_f_Mo_push q0 r16.1 r17 r16.2 h_r16) (fun r18 h_r18 => ?_)
        exact m_k_Mo_more_224 q0 r18 h_r18
      ·
        refine po_n (fun n9 _ => ?_)
        refine po_b (m_f_Mo_e q0 (8 : Int32) (0 : Int32) q5 h_q5) (fun r10 h_r10 => ?_)
        refine po_i (fun _ => ?_) (fun _ => ?_)
        ·
          refine po_b (m_f_Mo_jump q0 r10.1 r10.2 h_r10) (fun r14 h_r14 => ?_)
          exact m_k_Mo_more_209 q0 n9 r14 h_r14
        ·
          exact m_k_Mo_more_209 q0 n9 r10.2 h_r10
    ·
      refine po_g (fun _ => ?_)
      refine po_n (fun n20 _ => ?_)
      refine po_b (m_f_Mo_e q0 x1 (1 : Int32) q5 h_q5) (fun r21 h_r21 => ?_)
      refine po_i (fun _ => ?_) (fun _ => ?_)
      ·
        exact m_k_Mo_more_129 q0 x1 n20 r21.1 (1 : Int64) (0 : Int32) (1 : Int32) r21.2 h_r21
      ·
        exact m_k_Mo_more_129 q0 x1 n20 r21.1 (1 : Int64) (0 : Int32) (0 : Int32) r21.2 h_r21
  ·
    exact po_s h_q5
set_option maxHeartbeats 4000000 in
set_option maxRecDepth 100000 in
theorem d_k_Mo_more_65 (q0 : z_Sg) (x1 : Int32) (q : z_Sg) (hq : z_pn q = z_pn q0) (hd : ¬ z_gI q0 4 = -1) : z_po (k_Mo_more_65 x1 q) (fun o : z_Sg => z_pn o = z_pn q0) := by
  unfold k_Mo_more_65
  refine po_b (d_f_Mo_takePlace q0 q hq hd) (fun r4 h_r4 => ?_)
  refine po_n (fun q5 e_q5 => ?_)
  have h_q5 : z_pn q5 = z_pn q0 := by rw [e_q5]; exact h_r4
  refine po_f (pn_d h_q5 hd) ?_
  exact po_s h_q5
set_option maxHeartbeats 4000000 in
set_option maxRecDepth 100000 in
theorem m_k_Mo_more_54 (q0 : z_Sg) (x1 : Int32) (t0 : Int32) (q : z_Sg) (hq : z_pk q = z_pk q0) : z_po (k_Mo_more_54 x1 t0 q) (fun o : z_Sg => z_pk o = z_pk q0) := by
  unfold k_Mo_more_54
  refine po_i (fun _ => ?_) (fun _ => ?_)
  ·
    refine po_b (m_f_Mo_refuse q0 (6 : Int32) q hq) (fun r27 h_r27 => ?_)
    exact m_k_Mo_more_65 q0 x1 r27 h_r27
  ·
    exact m_k_Mo_more_65 q0 x1 q hq
set_option maxHeartbeats 4000000 in
set_option maxRecDepth 100000 in
theorem d_k_Mo_more_54 (q0 : z_Sg) (x1 : Int32) (t0 : Int32) (q : z_Sg) (hq : z_pn q = z_pn q0) (hd : ¬ z_gI q0 4 = -1) : z_po (k_Mo_more_54 x1 t0 q) (fun o : z_Sg => z_pn o = z_pn q0) := by
  unfold k_Mo_more_54
  refine po_i (fun _ => ?_) (fun _ => ?_)
  ·
    refine po_b (d_f_Mo_refuse q0 (6 : Int32) q hq hd) (fun r27 h_r27 => ?_)
    exact d_k_Mo_more_65 q0 x1 r27 h_r27 hd
  ·
    exact d_k_Mo_more_65 q0 x1 q hq hd
set_option maxHeartbeats 4000000 in
set_option maxRecDepth 100000 in
theorem m_k_Mo_more_49 (q0 : z_Sg) (x1 : Int32) (q : z_Sg) (hq : z_pk q = z_pk q0) : z_po (k_Mo_more_49 x1 q) (fun o : z_Sg => z_pk o = z_pk q0) := by
  unfold k_Mo_more_49
  exact m_k_Mo_more_54 q0 x1 (1 : Int32) q hq
set_option maxHeartbeats 4000000 in
set_option maxRecDepth 100000 in
theorem d_k_Mo_more_49 (q0 : z_Sg) (x1 : Int32) (q : z_Sg) (hq : z_pn q = z_pn q0) (hd : ¬ z_gI q0 4 = -1) : z_po (k_Mo_more_49 x1 q) (fun o : z_Sg => z_pn o = z_pn q0) := by
  unfold k_Mo_more_49
  exact d_k_Mo_more_54 q0 x1 (1 : Int32) q hq hd
set_option maxHeartbeats 4000000 in
set_option maxRecDepth 100000 in
theorem m_k_Mo_more_53 (q0 : z_Sg) (x1 : Int32) (q : z_Sg) (hq : z_pk q = z_pk q0) : z_po (k_Mo_more_53 x1 q) (fun o : z_Sg => z_pk o = z_pk q0) := by
  unfold k_Mo_more_53
  exact m_k_Mo_more_54 q0 x1 (0 : Int32) q hq
set_option maxHeartbeats 4000000 in
set_option maxRecDepth 100000 in
theorem d_k_Mo_more_53 (q0 : z_Sg) (x1 : Int32) (q : z_Sg) (hq : z_pn q = z_pn q0) (hd : ¬ z_gI q0 4 = -1) : z_po (k_Mo_more_53 x1 q) (fun o : z_Sg => z_pn o = z_pn q0) := by
  unfold k_Mo_more_53
  exact d_k_Mo_more_54 q0 x1 (0 : Int32) q hq hd
set_option maxHeartbeats 4000000 in
set_option maxRecDepth 100000 in
theorem m_k_Mo_more_42 (q0 : z_Sg) (x1 : Int32) (q : z_Sg) (hq : z_pk q = z_pk q0) : z_po (k_Mo_more_42 x1 q) (fun o : z_Sg => z_pk o = z_pk q0) := by
  unfold k_Mo_more_42
  refine po_i (fun _ => ?_) (fun _ => ?_)
  ·
    exact m_k_Mo_more_49 q0 x1 q hq
  ·
    exact m_k_Mo_more_53 q0 x1 q hq
set_option maxHeartbeats 4000000 in
set_option maxRecDepth 100000 in
theorem d_k_Mo_more_42 (q0 : z_Sg) (x1 : Int32) (q : z_Sg) (hq : z_pn q = z_pn q0) (hd : ¬ z_gI q0 4 = -1) : z_po (k_Mo_more_42 x1 q) (fun o : z_Sg => z_pn o = z_pn q0) := by
  unfold k_Mo_more_42
  refine po_i (fun _ => ?_) (fun _ => ?_)
  ·
    exact d_k_Mo_more_49 q0 x1 q hq hd
  ·
    exact d_k_Mo_more_53 q0 x1 q hq hd
set_option maxHeartbeats 4000000 in
set_option maxRecDepth 100000 in
theorem m_f_Mo_more (q0 : z_Sg) (x1 : Int32) (q : z_Sg) (hq : z_pk q = z_pk q0) : z_po (f_Mo_more x1 q) (fun o : z_Sg => z_pk o = z_pk q0) := by
  unfold f_Mo_more
  refine po_b (m_f_Mo_takeMod q0 q hq) (fun r1 h_r1 => ?_)
  refine po_i (fun _ => ?_) (fun _ => ?_)
  ·
    exact m_k_Mo_more_49 q0 x1 r1 h_r1
  ·
    refine po_i (fun _ => ?_) (fun _ => ?_)
    ·
      exact m_k_Mo_more_53 q0 x1 r1 h_r1
    ·
      refine po_i (fun _ => ?_) (fun _ => ?_)
      ·
        exact m_k_Mo_more_49 q0 x1 r1 h_r1
      ·
        refine po_i (fun _ => ?_) (fun _ => ?_)
        ·
          exact m_k_Mo_more_42 q0 x1 r1 h_r1
        ·
          refine po_i (fun _ => ?_) (fun _ => ?_)
          ·
            exact m_k_Mo_more_42 q0 x1 r1 h_r1
          ·
            exact m_k_Mo_more_53 q0 x1 r1 h_r1
set_option maxHeartbeats 4000000 in
set_option maxRecDepth 100000 in
theorem d_f_Mo_more (q0 : z_Sg) (x1 : Int32) (q : z_Sg) (hq : z_pn q = z_pn q0) (hd : ¬ z_gI q0 4 = -1) : z_po (f_Mo_more x1 q) (fun o : z_Sg => z_pn o = z_pn q0) := by
  unfold f_Mo_more
  refine po_b (d_f_Mo_takeMod q0 q hq hd) (fun r1 h_r1 => ?_)
  refine po_i (fun _ => ?_) (fun _ => ?_)
  ·
    exact d_k_Mo_more_49 q0 x1 r1 h_r1 hd
  ·
    refine po_i (fun _ => ?_) (fun _ => ?_)
    ·
      exact d_k_Mo_more_53 q0 x1 r1 h_r1 hd
    ·
      refine po_i (fun _ => ?_) (fun _ => ?_)
      ·
        exact d_k_Mo_more_49 q0 x1 r1 h_r1 hd
      ·
        refine po_i (fun _ => ?_) (fun _ => ?_)
        ·
          exact d_k_Mo_more_42 q0 x1 r1 h_r1 hd
        ·
          refine po_i (fun _ => ?_) (fun _ => ?_)
          ·
            exact d_k_Mo_more_42 q0 x1 r1 h_r1 hd
          ·
            exact d_k_Mo_more_53 q0 x1 r1 h_r1 hd
set_option maxHeartbeats 4000000 in
set_option maxRecDepth 100000 in
theorem m_k_Mo_pushNumber_25 (q0 : z_Sg) (t2 : Int32) (q : z_Sg) (hq : z_pk q = z_pk q0) : z_po (k_Mo_pushNumber_25 t2 q) (fun o : z_Sg => z_pk o = z_pk q0) := by
  unfold k_Mo_pushNumber_25
  refine po_b (m_f_Mo_number q0 t2 q hq) (fun r4 h_r4 => ?_)
  refine po_b (R := fun _ => True) (fun _ _ => trivial) (fun r5 _ => ?_)
  refine po_b (m_f_Mo_push q0 r4.1 r5 r4.2 h_r4) (fun r6 h_r6 => ?_)
  exact po_s h_r6
set_option maxHeartbeats 4000000 in
set_option maxRecDepth 100000 in
theorem d_k_Mo_pushNumber_25 (q0 : z_Sg) (t2 : Int32) (q : z_Sg) (hq : z_pn q = z_pn q0) (hd : ¬ z_gI q0 4 = -1) : z_po (k_Mo_pushNumber_25 t2 q) (fun o : z_Sg => z_pn o = z_pn q0) := by
  unfold k_Mo_pushNumber_25
  refine po_b (d_f_Mo_number q0 t2 q hq hd) (fun r4 h_r4 => ?_)
  refine po_b (R := fun _ => True) (fun _ _ => trivial) (fun r5 _ => ?_)
  refine po_b (d_f_Mo_push q0 r4.1 r5 r4.2 h_r4 hd) (fun r6 h_r6 => ?_)
  exact po_s h_r6
set_option maxHeartbeats 4000000 in
set_option maxRecDepth 100000 in
theorem m_f_Mo_pushNumber (q0 : z_Sg) (x1 : Int32) (q : z_Sg) (hq : z_pk q = z_pk q0) : z_po (f_Mo_pushNumber x1 q) (fun o : z_Sg => z_pk o = z_pk q0) := by
  unfold f_Mo_pushNumber
  refine po_i (fun _ => ?_) (fun _ => ?_)
  ·
    exact m_k_Mo_pushNumber_25 q0 (1 : Int32) q hq
  ·
    refine po_b (R := fun _ => True) (fun _ _ => trivial) (fun r2 _ => ?_)
    refine po_i (fun _ => ?_) (fun _ => ?_)
    ·
      exact m_k_Mo_pushNumber_25 q0 (2 : Int32) q hq
    ·
      exact m_k_Mo_pushNumber_25 q0 (4 : Int32) q hq
set_option maxHeartbeats 4000000 in
set_option maxRecDepth 100000 in
theorem d_f_Mo_pushNumber (q0 : z_Sg) (x1 : Int32) (q : z_Sg) (hq : z_pn q = z_pn q0) (hd : ¬ z_gI q0 4 = -1) : z_po (f_Mo_pushNumber x1 q) (fun o : z_Sg => z_pn o = z_pn q0) := by
  unfold f_Mo_pushNumber
  refine po_i (fun _ => ?_) (fun _ => ?_)
  ·
    exact d_k_Mo_pushNumber_25 q0 (1 : Int32) q hq hd
  ·
    refine po_b (R := fun _ => True) (fun _ _ => trivial) (fun r2 _ => ?_)
    refine po_i (fun _ => ?_) (fun _ => ?_)
    ·
      exact d_k_Mo_pushNumber_25 q0 (2 : Int32) q hq hd
    ·
      exact d_k_Mo_pushNumber_25 q0 (4 : Int32) q hq hd
set_option maxHeartbeats 4000000 in
set_option maxRecDepth 100000 in
theorem m_f_Mo_setG (q0 : z_Sg) (x1 : Int32) (x2 : Int64) (q : z_Sg) (hq : z_pk q = z_pk q0) : z_po (f_Mo_setG x1 x2 q) (fun o : z_Sg => z_pk o = z_pk q0) := by
  unfold f_Mo_setG
  refine po_b (R := fun _ => True) (fun _ _ => trivial) (fun r1 _ => ?_)
  refine po_b (m_f_Mo_put8 q0 ((z_gI q 8) + r1) x1 x2 q hq) (fun r2 h_r2 => ?_)
  exact po_s h_r2
set_option maxHeartbeats 4000000 in
set_option maxRecDepth 100000 in
theorem d_f_Mo_setG (q0 : z_Sg) (x1 : Int32) (x2 : Int64) (q : z_Sg) (hq : z_pn q = z_pn q0) : z_po (f_Mo_setG x1 x2 q) (fun o : z_Sg => z_pn o = z_pn q0) := by
  unfold f_Mo_setG
  refine po_b (R := fun _ => True) (fun _ _ => trivial) (fun r1 _ => ?_)
  refine po_b (d_f_Mo_put8 q0 ((z_gI q 8) + r1) x1 x2 q hq) (fun r2 h_r2 => ?_)
  exact po_s h_r2
set_option maxHeartbeats 4000000 in
set_option maxRecDepth 100000 in
theorem m_k_Mo_product_119 (q0 : z_Sg) (x2 : Int32) (x7 : Int64) (t0 : Int32) (q : z_Sg) (hq : z_pk q = z_pk q0) : z_po (k_Mo_product_119 x2 x7 t0 q) (fun o : z_Sg => z_pk o = z_pk q0) := by
  unfold k_Mo_product_119
  refine po_b (m_f_Mo_setG q0 x2 x7 q hq) (fun r13 h_r13 => ?_)
  refine po_b (m_f_Mo_muchFlags q0 t0 r13 h_r13) (fun r14 h_r14 => ?_)
  exact po_s h_r14
set_option maxHeartbeats 4000000 in
set_option maxRecDepth 100000 in
theorem d_k_Mo_product_119 (q0 : z_Sg) (x2 : Int32) (x7 : Int64) (t0 : Int32) (q : z_Sg) (hq : z_pn q = z_pn q0) : z_po (k_Mo_product_119 x2 x7 t0 q) (fun o : z_Sg => z_pn o = z_pn q0) := by
  unfold k_Mo_product_119
  refine po_b (d_f_Mo_setG q0 x2 x7 q hq) (fun r13 h_r13 => ?_)
  refine po_b (d_f_Mo_muchFlags q0 t0 r13 h_r13) (fun r14 h_r14 => ?_)
  exact po_s h_r14
set_option maxHeartbeats 4000000 in
set_option maxRecDepth 100000 in
theorem m_k_Mo_product_114 (q0 : z_Sg) (x2 : Int32) (x7 : Int64) (q : z_Sg) (hq : z_pk q = z_pk q0) : z_po (k_Mo_product_114 x2 x7 q) (fun o : z_Sg => z_pk o = z_pk q0) := by
  unfold k_Mo_product_114
  exact m_k_Mo_product_119 q0 x2 x7 (1 : Int32) q hq
set_option maxHeartbeats 4000000 in
set_option maxRecDepth 100000 in
theorem d_k_Mo_product_114 (q0 : z_Sg) (x2 : Int32) (x7 : Int64) (q : z_Sg) (hq : z_pn q = z_pn q0) : z_po (k_Mo_product_114 x2 x7 q) (fun o : z_Sg => z_pn o = z_pn q0) := by
  unfold k_Mo_product_114
  exact d_k_Mo_product_119 q0 x2 x7 (1 : Int32) q hq
set_option maxHeartbeats 4000000 in
set_option maxRecDepth 100000 in
theorem m_k_Mo_product_110 (q0 : z_Sg) (x2 : Int32) (x7 : Int64) (t0 : Int64) (t1 : Int64) (q : z_Sg) (hq : z_pk q = z_pk q0) : z_po (k_Mo_product_110 x2 x7 t0 t1 q) (fun o : z_Sg => z_pk o = z_pk q0) := by
  unfold k_Mo_product_110
  refine po_i (fun _ => ?_) (fun _ => ?_)
  ·
    exact m_k_Mo_product_119 q0 x2 x7 (0 : Int32) q hq
  ·
    exact m_k_Mo_product_114 q0 x2 x7 q hq
set_option maxHeartbeats 4000000 in
set_option maxRecDepth 100000 in
theorem d_k_Mo_product_110 (q0 : z_Sg) (x2 : Int32) (x7 : Int64) (t0 : Int64) (t1 : Int64) (q : z_Sg) (hq : z_pn q = z_pn q0) : z_po (k_Mo_product_110 x2 x7 t0 t1 q) (fun o : z_Sg => z_pn o = z_pn q0) := by
  unfold k_Mo_product_110
  refine po_i (fun _ => ?_) (fun _ => ?_)
  ·
    exact d_k_Mo_product_119 q0 x2 x7 (0 : Int32) q hq
  ·
    exact d_k_Mo_product_114 q0 x2 x7 q hq
set_option maxHeartbeats 4000000 in
set_option maxRecDepth 100000 in
theorem m_k_Mo_product_46 (q0 : z_Sg) (x2 : Int32) (t0 : Int64) (q : z_Sg) (hq : z_pk q = z_pk q0) : z_po (k_Mo_product_46 x2 t0 q) (fun o : z_Sg => z_pk o = z_pk q0) := by
  unfold k_Mo_product_46
  refine po_b (m_f_Mo_e q0 x2 (0 : Int32) q hq) (fun r7 h_r7 => ?_)
  refine po_b (R := fun _ => True) (fun _ _ => trivial) (fun r8 _ => ?_)
  refine po_b (m_f_Mo_multiplySigned q0 r8 t0 r7.2 h_r7) (fun r9 h_r9 => ?_)
  refine po_b (R := fun _ => True) (fun _ _ => trivial) (fun r10 _ => ?_)
  refine po_b (R := fun _ => True) (fun _ _ => trivial) (fun r11 _ => ?_)
  refine po_i (fun _ => ?_) (fun _ => ?_)
  ·
    refine po_i (fun _ => ?_) (fun _ => ?_)
    ·
      exact m_k_Mo_product_110 q0 x2 r10 (z_gL r9 9) (0 : Int64) r9 h_r9
    ·
      exact m_k_Mo_product_110 q0 x2 r10 (z_gL r9 9) (-1 : Int64) r9 h_r9
  ·
    exact m_k_Mo_product_114 q0 x2 r10 r9 h_r9
set_option maxHeartbeats 4000000 in
set_option maxRecDepth 100000 in
theorem d_k_Mo_product_46 (q0 : z_Sg) (x2 : Int32) (t0 : Int64) (q : z_Sg) (hq : z_pn q = z_pn q0) (hd : ¬ z_gI q0 4 = -1) : z_po (k_Mo_product_46 x2 t0 q) (fun o : z_Sg => z_pn o = z_pn q0) := by
  unfold k_Mo_product_46
  refine po_b (d_f_Mo_e q0 x2 (0 : Int32) q hq hd) (fun r7 h_r7 => ?_)
  refine po_b (R := fun _ => True) (fun _ _ => trivial) (fun r8 _ => ?_)
  refine po_b (d_f_Mo_multiplySigned q0 r8 t0 r7.2 h_r7) (fun r9 h_r9 => ?_)
  refine po_b (R := fun _ => True) (fun _ _ => trivial) (fun r10 _ => ?_)
  refine po_b (R := fun _ => True) (fun _ _ => trivial) (fun r11 _ => ?_)
  refine po_i (fun _ => ?_) (fun _ => ?_)
  ·
    refine po_i (fun _ => ?_) (fun _ => ?_)
    ·
      exact d_k_Mo_product_110 q0 x2 r10 (z_gL r9 9) (0 : Int64) r9 h_r9
    ·
      exact d_k_Mo_product_110 q0 x2 r10 (z_gL r9 9) (-1 : Int64) r9 h_r9
  ·
    exact d_k_Mo_product_114 q0 x2 r10 r9 h_r9
set_option maxHeartbeats 4000000 in
set_option maxRecDepth 100000 in
theorem m_k_Mo_product_43 (q0 : z_Sg) (x2 : Int32) (t1 : Int32) (q : z_Sg) (hq : z_pk q = z_pk q0) : z_po (k_Mo_product_43 x2 t1 q) (fun o : z_Sg => z_pk o = z_pk q0) := by
  unfold k_Mo_product_43
  refine po_b (m_f_Mo_number q0 t1 q hq) (fun r6 h_r6 => ?_)
  exact m_k_Mo_product_46 q0 x2 r6.1 r6.2 h_r6
set_option maxHeartbeats 4000000 in
set_option maxRecDepth 100000 in
theorem d_k_Mo_product_43 (q0 : z_Sg) (x2 : Int32) (t1 : Int32) (q : z_Sg) (hq : z_pn q = z_pn q0) (hd : ¬ z_gI q0 4 = -1) : z_po (k_Mo_product_43 x2 t1 q) (fun o : z_Sg => z_pn o = z_pn q0) := by
  unfold k_Mo_product_43
  refine po_b (d_f_Mo_number q0 t1 q hq hd) (fun r6 h_r6 => ?_)
  exact d_k_Mo_product_46 q0 x2 r6.1 r6.2 h_r6 hd
set_option maxHeartbeats 4000000 in
set_option maxRecDepth 100000 in
theorem m_f_Mo_product (q0 : z_Sg) (x1 : Int32) (q : z_Sg) (hq : z_pk q = z_pk q0) : z_po (f_Mo_product x1 q) (fun o : z_Sg => z_pk o = z_pk q0) := by
  unfold f_Mo_product
  refine po_b (R := fun _ => True) (fun _ _ => trivial) (fun r1 _ => ?_)
  refine po_b (m_f_Mo_takeOperand q0 q hq) (fun r2 h_r2 => ?_)
  refine po_i (fun _ => ?_) (fun _ => ?_)
  ·
    refine po_b (R := fun _ => True) (fun _ _ => trivial) (fun r17 _ => ?_)
    refine po_b (R := fun _ => True) (fun _ _ => trivial) (fun r18 _ => ?_)
    exact m_k_Mo_product_46 q0 r1 r18 r2 h_r2
  ·
    refine po_i (fun _ => ?_) (fun _ => ?_)
    ·
      exact m_k_Mo_product_43 q0 r1 (1 : Int32) r2 h_r2
    ·
      refine po_b (R := fun _ => True) (fun _ _ => trivial) (fun r5 _ => ?_)
      exact m_k_Mo_product_43 q0 r1 r5 r2 h_r2
set_option maxHeartbeats 4000000 in
set_option maxRecDepth 100000 in
theorem d_f_Mo_product (q0 : z_Sg) (x1 : Int32) (q : z_Sg) (hq : z_pn q = z_pn q0) (hd : ¬ z_gI q0 4 = -1) : z_po (f_Mo_product x1 q) (fun o : z_Sg => z_pn o = z_pn q0) := by
  unfold f_Mo_product
  refine po_b (R := fun _ => True) (fun _ _ => trivial) (fun r1 _ => ?_)
  refine po_b (d_f_Mo_takeOperand q0 q hq hd) (fun r2 h_r2 => ?_)
  refine po_i (fun _ => ?_) (fun _ => ?_)
  ·
    refine po_b (R := fun _ => True) (fun _ _ => trivial) (fun r17 _ => ?_)
    refine po_b (R := fun _ => True) (fun _ _ => trivial) (fun r18 _ => ?_)
    exact d_k_Mo_product_46 q0 r1 r18 r2 h_r2 hd
  ·
    refine po_i (fun _ => ?_) (fun _ => ?_)
    ·
      exact d_k_Mo_product_43 q0 r1 (1 : Int32) r2 h_r2 hd
    ·
      refine po_b (R := fun _ => True) (fun _ _ => trivial) (fun r5 _ => ?_)
      exact d_k_Mo_product_43 q0 r1 r5 r2 h_r2 hd
set_option maxHeartbeats 4000000 in
set_option maxRecDepth 100000 in
theorem m_f_Mo_testNumber (q0 : z_Sg) (x1 : Int32) (q : z_Sg) (hq : z_pk q = z_pk q0) : z_po (f_Mo_testNumber x1 q) (fun o : z_Sg => z_pk o = z_pk q0) := by
  unfold f_Mo_testNumber
  refine po_b (R := fun _ => True) (fun _ _ => trivial) (fun r1 _ => ?_)
  refine po_b (m_f_Mo_number q0 r1 q hq) (fun r2 h_r2 => ?_)
  refine po_b (R := fun _ => True) (fun _ _ => trivial) (fun r3 _ => ?_)
  refine po_b (R := fun _ => True) (fun _ _ => trivial) (fun r4 _ => ?_)
  refine po_b (m_f_Mo_logic q0 (r3 &&& r4) x1 r2.2 h_r2) (fun r5 h_r5 => ?_)
  exact po_s h_r5
set_option maxHeartbeats 4000000 in
set_option maxRecDepth 100000 in
theorem d_f_Mo_testNumber (q0 : z_Sg) (x1 : Int32) (q : z_Sg) (hq : z_pn q = z_pn q0) (hd : ¬ z_gI q0 4 = -1) : z_po (f_Mo_testNumber x1 q) (fun o : z_Sg => z_pn o = z_pn q0) := by
  unfold f_Mo_testNumber
  refine po_b (R := fun _ => True) (fun _ _ => trivial) (fun r1 _ => ?_)
  refine po_b (d_f_Mo_number q0 r1 q hq hd) (fun r2 h_r2 => ?_)
  refine po_b (R := fun _ => True) (fun _ _ => trivial) (fun r3 _ => ?_)
  refine po_b (R := fun _ => True) (fun _ _ => trivial) (fun r4 _ => ?_)
  refine po_b (d_f_Mo_logic q0 (r3 &&& r4) x1 r2.2 h_r2) (fun r5 h_r5 => ?_)
  exact po_s h_r5
set_option maxHeartbeats 4000000 in
set_option maxRecDepth 100000 in
theorem m_k_Mo_load_26 (q0 : z_Sg) (t0 : Int64) (q : z_Sg) (hq : z_pk q = z_pk q0) : z_po (k_Mo_load_26 t0 q) (fun o : (Int64 × z_Sg) => z_pk o.2 = z_pk q0) := by
  unfold k_Mo_load_26
  exact po_s hq
set_option maxHeartbeats 4000000 in
set_option maxRecDepth 100000 in
theorem d_k_Mo_load_26 (q0 : z_Sg) (t0 : Int64) (q : z_Sg) (hq : z_pn q = z_pn q0) : z_po (k_Mo_load_26 t0 q) (fun o : (Int64 × z_Sg) => z_pn o.2 = z_pn q0) := by
  unfold k_Mo_load_26
  exact po_s hq
set_option maxHeartbeats 4000000 in
set_option maxRecDepth 100000 in
theorem m_f_Mo_load (q0 : z_Sg) (x1 : Int64) (x3 : Int32) (x4 : Int32) (q : z_Sg) (hq : z_pk q = z_pk q0) : z_po (f_Mo_load x1 x3 x4 q) (fun o : (Int64 × z_Sg) => z_pk o.2 = z_pk q0) := by
  unfold f_Mo_load
  refine po_b (m_f_Mo_lookUp q0 x1 x3 (0 : Int32) x4 q hq) (fun r1 h_r1 => ?_)
  refine po_i (fun _ => ?_) (fun _ => ?_)
  ·
    refine po_b (R := fun _ => True) (fun _ _ => trivial) (fun r3 _ => ?_)
    exact m_k_Mo_load_26 q0 r3 r1 h_r1
  ·
    exact m_k_Mo_load_26 q0 (0 : Int64) r1 h_r1
set_option maxHeartbeats 4000000 in
set_option maxRecDepth 100000 in
theorem d_f_Mo_load (q0 : z_Sg) (x1 : Int64) (x3 : Int32) (x4 : Int32) (q : z_Sg) (hq : z_pn q = z_pn q0) (hd : ¬ z_gI q0 4 = -1) : z_po (f_Mo_load x1 x3 x4 q) (fun o : (Int64 × z_Sg) => z_pn o.2 = z_pn q0) := by
  unfold f_Mo_load
  refine po_b (d_f_Mo_lookUp q0 x1 x3 (0 : Int32) x4 q hq hd) (fun r1 h_r1 => ?_)
  refine po_f (pn_d h_r1 hd) ?_
  exact d_k_Mo_load_26 q0 (0 : Int64) r1 h_r1
set_option maxHeartbeats 4000000 in
set_option maxRecDepth 100000 in
theorem m_k_Mo_pop_32 (q0 : z_Sg) (x2 : Int64) (q : z_Sg) (hq : z_pk q = z_pk q0) : z_po (k_Mo_pop_32 x2 q) (fun o : (Int64 × z_Sg) => z_pk o.2 = z_pk q0) := by
  unfold k_Mo_pop_32
  exact po_s hq
set_option maxHeartbeats 4000000 in
set_option maxRecDepth 100000 in
theorem d_k_Mo_pop_32 (q0 : z_Sg) (x2 : Int64) (q : z_Sg) (hq : z_pn q = z_pn q0) : z_po (k_Mo_pop_32 x2 q) (fun o : (Int64 × z_Sg) => z_pn o.2 = z_pn q0) := by
  unfold k_Mo_pop_32
  exact po_s hq
set_option maxHeartbeats 4000000 in
set_option maxRecDepth 100000 in
theorem m_f_Mo_pop (q0 : z_Sg) (x1 : Int32) (q : z_Sg) (hq : z_pk q = z_pk q0) : z_po (f_Mo_pop x1 q) (fun o : (Int64 × z_Sg) => z_pk o.2 = z_pk q0) := by
  unfold f_Mo_pop
  refine po_g (fun _ => ?_)
  refine po_b (m_f_Mo_load q0 (z_gM q 0 (4 : Int32).toNatClampNeg) x1 (1 : Int32) q hq) (fun r2 h_r2 => ?_)
  refine po_i (fun _ => ?_) (fun _ => ?_)
  ·
    refine po_g (fun _ => ?_)
    refine po_g (fun _ => ?_)
    refine po_n (fun q6 e_q6 => ?_)
    have h_q6 : z_pk q6 = z_pk q0 := by rw [e_q6]; exact h_r2
    exact m_k_Mo_pop_32 q0 r2.1 q6 h_q6
  ·
    exact m_k_Mo_pop_32 q0 r2.1 r2.2 h_r2
set_option maxHeartbeats 4000000 in
set_option maxRecDepth 100000 in
theorem d_f_Mo_pop (q0 : z_Sg) (x1 : Int32) (q : z_Sg) (hq : z_pn q = z_pn q0) (hd : ¬ z_gI q0 4 = -1) : z_po (f_Mo_pop x1 q) (fun o : (Int64 × z_Sg) => z_pn o.2 = z_pn q0) := by
  unfold f_Mo_pop
  refine po_g (fun _ => ?_)
  refine po_b (d_f_Mo_load q0 (z_gM q 0 (4 : Int32).toNatClampNeg) x1 (1 : Int32) q hq hd) (fun r2 h_r2 => ?_)
  refine po_f (pn_d h_r2 hd) ?_
  exact d_k_Mo_pop_32 q0 r2.1 r2.2 h_r2
set_option maxHeartbeats 4000000 in
set_option maxRecDepth 100000 in
theorem m_k_Mo_returns_66 (q0 : z_Sg) (q : z_Sg) (hq : z_pk q = z_pk q0) : z_po (k_Mo_returns_66 q) (fun o : z_Sg => z_pk o = z_pk q0) := by
  unfold k_Mo_returns_66
  exact po_s hq
set_option maxHeartbeats 4000000 in
set_option maxRecDepth 100000 in
theorem d_k_Mo_returns_66 (q0 : z_Sg) (q : z_Sg) (hq : z_pn q = z_pn q0) : z_po (k_Mo_returns_66 q) (fun o : z_Sg => z_pn o = z_pn q0) := by
  unfold k_Mo_returns_66
  exact po_s hq
set_option maxHeartbeats 4000000 in
set_option maxRecDepth 100000 in
theorem m_k_Mo_returns_33 (q0 : z_Sg) (t0 : Int64) (q : z_Sg) (hq : z_pk q = z_pk q0) : z_po (k_Mo_returns_33 t0 q) (fun o : z_Sg => z_pk o = z_pk q0) := by
  unfold k_Mo_returns_33
  refine po_b (m_f_Mo_pop q0 (8 : Int32) q hq) (fun r3 h_r3 => ?_)
  refine po_g (fun _ => ?_)
  refine po_g (fun _ => ?_)
  refine po_n (fun q6 e_q6 => ?_)
  have h_q6 : z_pk q6 = z_pk q0 := by rw [e_q6]; exact h_r3
  refine po_i (fun _ => ?_) (fun _ => ?_)
  ·
    refine po_b (m_f_Mo_jump q0 r3.1 q6 h_q6) (fun r8 h_r8 => ?_)
    exact m_k_Mo_returns_66 q0 r8 h_r8
  ·
    exact m_k_Mo_returns_66 q0 q6 h_q6
set_option maxHeartbeats 4000000 in
set_option maxRecDepth 100000 in
theorem d_k_Mo_returns_33 (q0 : z_Sg) (t0 : Int64) (q : z_Sg) (hq : z_pn q = z_pn q0) (hd : ¬ z_gI q0 4 = -1) : z_po (k_Mo_returns_33 t0 q) (fun o : z_Sg => z_pn o = z_pn q0) := by
  unfold k_Mo_returns_33
  refine po_b (d_f_Mo_pop q0 (8 : Int32) q hq hd) (fun r3 h_r3 => ?_)
  refine po_g (fun _ => ?_)
  refine po_g (fun _ => ?_)
  refine po_n (fun q6 e_q6 => ?_)
  have h_q6 : z_pn q6 = z_pn q0 := by rw [e_q6]; exact h_r3
  refine po_f (pn_d h_q6 hd) ?_
  exact d_k_Mo_returns_66 q0 q6 h_q6
set_option maxHeartbeats 4000000 in
set_option maxRecDepth 100000 in
theorem m_k_Mo_returns_13 (q0 : z_Sg) (x1 : Int32) (q : z_Sg) (hq : z_pk q = z_pk q0) : z_po (k_Mo_returns_13 x1 q) (fun o : z_Sg => z_pk o = z_pk q0) := by
  unfold k_Mo_returns_13
  refine po_i (fun _ => ?_) (fun _ => ?_)
  ·
    refine po_b (m_f_Mo_number q0 (2 : Int32) q hq) (fun r9 h_r9 => ?_)
    refine po_b (R := fun _ => True) (fun _ _ => trivial) (fun r10 _ => ?_)
    exact m_k_Mo_returns_33 q0 r10 r9.2 h_r9
  ·
    exact m_k_Mo_returns_33 q0 (0 : Int64) q hq
set_option maxHeartbeats 4000000 in
set_option maxRecDepth 100000 in
theorem d_k_Mo_returns_13 (q0 : z_Sg) (x1 : Int32) (q : z_Sg) (hq : z_pn q = z_pn q0) (hd : ¬ z_gI q0 4 = -1) : z_po (k_Mo_returns_13 x1 q) (fun o : z_Sg => z_pn o = z_pn q0) := by
  unfold k_Mo_returns_13
  refine po_i (fun _ => ?_) (fun _ => ?_)
  ·
    refine po_b (d_f_Mo_number q0 (2 : Int32) q hq hd) (fun r9 h_r9 => ?_)
    refine po_b (R := fun _ => True) (fun _ _ => trivial) (fun r10 _ => ?_)
    exact d_k_Mo_returns_33 q0 r10 r9.2 h_r9 hd
  ·
    exact d_k_Mo_returns_33 q0 (0 : Int64) q hq hd
set_option maxHeartbeats 4000000 in
set_option maxRecDepth 100000 in
theorem m_f_Mo_returns (q0 : z_Sg) (x1 : Int32) (q : z_Sg) (hq : z_pk q = z_pk q0) : z_po (f_Mo_returns x1 q) (fun o : z_Sg => z_pk o = z_pk q0) := by
  unfold f_Mo_returns
  refine po_i (fun _ => ?_) (fun _ => ?_)
  ·
    exact m_k_Mo_returns_13 q0 x1 q hq
  ·
    refine po_b (m_f_Mo_refuse q0 (6 : Int32) q hq) (fun r11 h_r11 => ?_)
    exact m_k_Mo_returns_13 q0 x1 r11 h_r11
set_option maxHeartbeats 4000000 in
set_option maxRecDepth 100000 in
theorem d_f_Mo_returns (q0 : z_Sg) (x1 : Int32) (q : z_Sg) (hq : z_pn q = z_pn q0) (hd : ¬ z_gI q0 4 = -1) : z_po (f_Mo_returns x1 q) (fun o : z_Sg => z_pn o = z_pn q0) := by
  unfold f_Mo_returns
  refine po_i (fun _ => ?_) (fun _ => ?_)
  ·
    exact d_k_Mo_returns_13 q0 x1 q hq hd
  ·
    refine po_b (d_f_Mo_refuse q0 (6 : Int32) q hq hd) (fun r11 h_r11 => ?_)
    exact d_k_Mo_returns_13 q0 x1 r11 h_r11 hd
set_option maxHeartbeats 4000000 in
set_option maxRecDepth 100000 in
theorem m_k_Mo_moveNumber_17 (q0 : z_Sg) (x1 : Int32) (q : z_Sg) (hq : z_pk q = z_pk q0) : z_po (k_Mo_moveNumber_17 x1 q) (fun o : z_Sg => z_pk o = z_pk q0) := by
  unfold k_Mo_moveNumber_17
  refine po_b (m_f_Mo_takePlace q0 q hq) (fun r3 h_r3 => ?_)
  refine po_b (R := fun _ => True) (fun _ _ => trivial) (fun r4 _ => ?_)
  refine po_b (m_f_Mo_number q0 r4 r3 h_r3) (fun r5 h_r5 => ?_)
  refine po_b (m_f_Mo_e q0 x1 (1 : Int32) r5.2 h_r5) (fun r6 h_r6 => ?_)
  refine po_b (m_f_Mo_setE q0 x1 r5.1 r6.2 h_r6) (fun r7 h_r7 => ?_)
  exact po_s h_r7
set_option maxHeartbeats 4000000 in
set_option maxRecDepth 100000 in
theorem d_k_Mo_moveNumber_17 (q0 : z_Sg) (x1 : Int32) (q : z_Sg) (hq : z_pn q = z_pn q0) (hd : ¬ z_gI q0 4 = -1) : z_po (k_Mo_moveNumber_17 x1 q) (fun o : z_Sg => z_pn o = z_pn q0) := by
  unfold k_Mo_moveNumber_17
  refine po_b (d_f_Mo_takePlace q0 q hq hd) (fun r3 h_r3 => ?_)
  refine po_b (R := fun _ => True) (fun _ _ => trivial) (fun r4 _ => ?_)
  refine po_b (d_f_Mo_number q0 r4 r3 h_r3 hd) (fun r5 h_r5 => ?_)
  refine po_b (d_f_Mo_e q0 x1 (1 : Int32) r5.2 h_r5 hd) (fun r6 h_r6 => ?_)
  refine po_b (d_f_Mo_setE q0 x1 r5.1 r6.2 h_r6) (fun r7 h_r7 => ?_)
  exact po_s h_r7
set_option maxHeartbeats 4000000 in
set_option maxRecDepth 100000 in
theorem m_f_Mo_moveNumber (q0 : z_Sg) (x1 : Int32) (q : z_Sg) (hq : z_pk q = z_pk q0) : z_po (f_Mo_moveNumber x1 q) (fun o : z_Sg => z_pk o = z_pk q0) := by
  unfold f_Mo_moveNumber
  refine po_b (m_f_Mo_takeMod q0 q hq) (fun r1 h_r1 => ?_)
  refine po_i (fun _ => ?_) (fun _ => ?_)
  ·
    exact m_k_Mo_moveNumber_17 q0 x1 r1 h_r1
  ·
    refine po_b (m_f_Mo_refuse q0 (6 : Int32) r1 h_r1) (fun r8 h_r8 => ?_)
    exact m_k_Mo_moveNumber_17 q0 x1 r8 h_r8
set_option maxHeartbeats 4000000 in
set_option maxRecDepth 100000 in
theorem d_f_Mo_moveNumber (q0 : z_Sg) (x1 : Int32) (q : z_Sg) (hq : z_pn q = z_pn q0) (hd : ¬ z_gI q0 4 = -1) : z_po (f_Mo_moveNumber x1 q) (fun o : z_Sg => z_pn o = z_pn q0) := by
  unfold f_Mo_moveNumber
  refine po_b (d_f_Mo_takeMod q0 q hq hd) (fun r1 h_r1 => ?_)
  refine po_i (fun _ => ?_) (fun _ => ?_)
  ·
    exact d_k_Mo_moveNumber_17 q0 x1 r1 h_r1 hd
  ·
    refine po_b (d_f_Mo_refuse q0 (6 : Int32) r1 h_r1 hd) (fun r8 h_r8 => ?_)
    exact d_k_Mo_moveNumber_17 q0 x1 r8 h_r8 hd
set_option maxHeartbeats 4000000 in
set_option maxRecDepth 100000 in
theorem m_k_Mo_far_67 (q0 : z_Sg) (q : z_Sg) (hq : z_pk q = z_pk q0) : z_po (k_Mo_far_67 q) (fun o : z_Sg => z_pk o = z_pk q0) := by
  unfold k_Mo_far_67
  exact po_s hq
set_option maxHeartbeats 4000000 in
set_option maxRecDepth 100000 in
theorem d_k_Mo_far_67 (q0 : z_Sg) (q : z_Sg) (hq : z_pn q = z_pn q0) : z_po (k_Mo_far_67 q) (fun o : z_Sg => z_pn o = z_pn q0) := by
  unfold k_Mo_far_67
  exact po_s hq
set_option maxHeartbeats 4000000 in
set_option maxRecDepth 100000 in
theorem m_k_Mo_far_52 (q0 : z_Sg) (x1 : Int32) (x4 : Int64) (q : z_Sg) (hq : z_pk q = z_pk q0) : z_po (k_Mo_far_52 x1 x4 q) (fun o : z_Sg => z_pk o = z_pk q0) := by
  unfold k_Mo_far_52
  refine po_i (fun _ => ?_) (fun _ => ?_)
  ·
    refine po_b (m_f_Mo_push q0 x4 (8 : Int32) q hq) (fun r7 h_r7 => ?_)
    exact m_k_Mo_far_67 q0 r7 h_r7
  ·
    exact m_k_Mo_far_67 q0 q hq
set_option maxHeartbeats 4000000 in
set_option maxRecDepth 100000 in
theorem d_k_Mo_far_52 (q0 : z_Sg) (x1 : Int32) (x4 : Int64) (q : z_Sg) (hq : z_pn q = z_pn q0) (hd : ¬ z_gI q0 4 = -1) : z_po (k_Mo_far_52 x1 x4 q) (fun o : z_Sg => z_pn o = z_pn q0) := by
  unfold k_Mo_far_52
  refine po_i (fun _ => ?_) (fun _ => ?_)
  ·
    refine po_b (d_f_Mo_push q0 x4 (8 : Int32) q hq hd) (fun r7 h_r7 => ?_)
    exact d_k_Mo_far_67 q0 r7 h_r7
  ·
    exact d_k_Mo_far_67 q0 q hq
set_option maxHeartbeats 4000000 in
set_option maxRecDepth 100000 in
theorem m_k_Mo_far_26 (q0 : z_Sg) (x1 : Int32) (t1 : Int32) (q : z_Sg) (hq : z_pk q = z_pk q0) : z_po (k_Mo_far_26 x1 t1 q) (fun o : z_Sg => z_pk o = z_pk q0) := by
  unfold k_Mo_far_26
  refine po_b (m_f_Mo_number q0 t1 q hq) (fun r3 h_r3 => ?_)
  refine po_n (fun n4 _ => ?_)
  refine po_i (fun _ => ?_) (fun _ => ?_)
  ·
    refine po_b (m_f_Mo_jump q0 (n4 + r3.1) r3.2 h_r3) (fun r8 h_r8 => ?_)
    exact m_k_Mo_far_52 q0 x1 n4 r8 h_r8
  ·
    exact m_k_Mo_far_52 q0 x1 n4 r3.2 h_r3
set_option maxHeartbeats 4000000 in
set_option maxRecDepth 100000 in
theorem d_k_Mo_far_26 (q0 : z_Sg) (x1 : Int32) (t1 : Int32) (q : z_Sg) (hq : z_pn q = z_pn q0) (hd : ¬ z_gI q0 4 = -1) : z_po (k_Mo_far_26 x1 t1 q) (fun o : z_Sg => z_pn o = z_pn q0) := by
  unfold k_Mo_far_26
  refine po_b (d_f_Mo_number q0 t1 q hq hd) (fun r3 h_r3 => ?_)
  refine po_n (fun n4 _ => ?_)
  refine po_f (pn_d h_r3 hd) ?_
  exact d_k_Mo_far_52 q0 x1 n4 r3.2 h_r3 hd
set_option maxHeartbeats 4000000 in
set_option maxRecDepth 100000 in
theorem m_k_Mo_far_13 (q0 : z_Sg) (x1 : Int32) (q : z_Sg) (hq : z_pk q = z_pk q0) : z_po (k_Mo_far_13 x1 q) (fun o : z_Sg => z_pk o = z_pk q0) := by
  unfold k_Mo_far_13
  refine po_i (fun _ => ?_) (fun _ => ?_)
  ·
    exact m_k_Mo_far_26 q0 x1 (1 : Int32) q hq
  ·
    exact m_k_Mo_far_26 q0 x1 (4 : Int32) q hq
