def z_pq (q : z_Sg) : (Nat → Int32) × Int32 := (z_gN q 1, z_gI q 11)
theorem n_f_Mo_refuse (q0 : z_Sg) (x1 : Int32) (q : z_Sg) (hq : z_pq q = z_pq q0) : z_po (f_Mo_refuse x1 q) (fun o : z_Sg => z_pq o = z_pq q0) := by
  unfold f_Mo_refuse k_Mo_refuse_13
  exact po_i (fun _ => po_n (fun n e => po_s (by rw [e]; exact hq))) (fun _ => po_s hq)
set_option maxHeartbeats 4000000 in
set_option maxRecDepth 100000 in
theorem n_k_Mo_find_379 (q0 : z_Sg) (t0 : Int64) (q : z_Sg) (hq : z_pq q = z_pq q0) : z_po (k_Mo_find_379 t0 q) (fun o : (Int64 × z_Sg) => z_pq o.2 = z_pq q0) := by
  unfold k_Mo_find_379
  exact po_s hq
set_option maxHeartbeats 4000000 in
set_option maxRecDepth 100000 in
theorem n_k_Mo_find_340 (q0 : z_Sg) (x1 : Int64) (x5 : Int64) (x10 : Int32) (x11 : Int64) (q : z_Sg) (hq : z_pq q = z_pq q0) : z_po (k_Mo_find_340 x1 x5 x10 x11 q) (fun o : (Int64 × z_Sg) => z_pq o.2 = z_pq q0) := by
  unfold k_Mo_find_340
  refine po_i (fun _ => ?_) (fun _ => ?_)
  ·
    refine po_b (R := fun _ => True) (fun _ _ => trivial) (fun r14 _ => ?_)
    refine po_b (R := fun _ => True) (fun _ _ => trivial) (fun r15 _ => ?_)
    exact n_k_Mo_find_379 q0 ((z_lshl r14 (21 : Int32)) + r15) q hq
  ·
    refine po_b (R := fun _ => True) (fun _ _ => trivial) (fun r13 _ => ?_)
    exact n_k_Mo_find_379 q0 (x5 + r13) q hq
set_option maxHeartbeats 4000000 in
set_option maxRecDepth 100000 in
theorem n_k_Mo_find_336 (q0 : z_Sg) (q : z_Sg) (hq : z_pq q = z_pq q0) : z_po (k_Mo_find_336 q) (fun o : (Int64 × z_Sg) => z_pq o.2 = z_pq q0) := by
  unfold k_Mo_find_336
  exact po_s hq
set_option maxHeartbeats 4000000 in
set_option maxRecDepth 100000 in
theorem n_k_Mo_find_326 (q0 : z_Sg) (x1 : Int64) (x3 : Int32) (x5 : Int64) (x9 : Int32) (x10 : Int32) (x11 : Int64) (q : z_Sg) (hq : z_pq q = z_pq q0) : z_po (k_Mo_find_326 x1 x3 x5 x9 x10 x11 q) (fun o : (Int64 × z_Sg) => z_pq o.2 = z_pq q0) := by
  unfold k_Mo_find_326
  refine po_i (fun _ => ?_) (fun _ => ?_)
  ·
    refine po_i (fun _ => ?_) (fun _ => ?_)
    ·
      exact n_k_Mo_find_336 q0 q hq
    ·
      exact n_k_Mo_find_340 q0 x1 x5 x10 x11 q hq
  ·
    exact n_k_Mo_find_340 q0 x1 x5 x10 x11 q hq
set_option maxHeartbeats 4000000 in
set_option maxRecDepth 100000 in
theorem n_k_Mo_find_314 (q0 : z_Sg) (x1 : Int64) (x3 : Int32) (x5 : Int64) (x8 : Int32) (x9 : Int32) (x10 : Int32) (x11 : Int64) (q : z_Sg) (hq : z_pq q = z_pq q0) : z_po (k_Mo_find_314 x1 x3 x5 x8 x9 x10 x11 q) (fun o : (Int64 × z_Sg) => z_pq o.2 = z_pq q0) := by
  unfold k_Mo_find_314
  refine po_i (fun _ => ?_) (fun _ => ?_)
  ·
    exact n_k_Mo_find_326 q0 x1 x3 x5 x9 x10 x11 q hq
  ·
    refine po_i (fun _ => ?_) (fun _ => ?_)
    ·
      exact n_k_Mo_find_336 q0 q hq
    ·
      exact n_k_Mo_find_326 q0 x1 x3 x5 x9 x10 x11 q hq
set_option maxHeartbeats 4000000 in
set_option maxRecDepth 100000 in
theorem n_k_Mo_find_293 (q0 : z_Sg) (ih71 : Int64 × Int32 × Int32 × Int64 × Int32 × Int32 × Int32 × Int32 × Int64 × Int32 × z_Sg → Option (Int64 × z_Sg)) (x1 : Int64) (x3 : Int32) (x4 : Int32) (x5 : Int64) (x7 : Int32) (x8 : Int32) (x9 : Int32) (x10 : Int32) (x11 : Int64) (x13 : Int32) (q : z_Sg) (h_ih71 : ∀ a : Int64 × Int32 × Int32 × Int64 × Int32 × Int32 × Int32 × Int32 × Int64 × Int32 × z_Sg, z_pq a.2.2.2.2.2.2.2.2.2.2 = z_pq q0 → z_po (ih71 a) (fun o : (Int64 × z_Sg) => z_pq o.2 = z_pq q0)) (hq : z_pq q = z_pq q0) : z_po (k_Mo_find_293 ih71 x1 x3 x4 x5 x7 x8 x9 x10 x11 x13 q) (fun o : (Int64 × z_Sg) => z_pq o.2 = z_pq q0) := by
  unfold k_Mo_find_293
  exact h_ih71 _ hq
set_option maxHeartbeats 4000000 in
set_option maxRecDepth 100000 in
theorem n_k_Mo_find_283 (q0 : z_Sg) (ih71 : Int64 × Int32 × Int32 × Int64 × Int32 × Int32 × Int32 × Int32 × Int64 × Int32 × z_Sg → Option (Int64 × z_Sg)) (x1 : Int64) (x3 : Int32) (x4 : Int32) (x5 : Int64) (x7 : Int32) (x8 : Int32) (x9 : Int32) (x10 : Int32) (x11 : Int64) (t0 : Int32) (q : z_Sg) (h_ih71 : ∀ a : Int64 × Int32 × Int32 × Int64 × Int32 × Int32 × Int32 × Int32 × Int64 × Int32 × z_Sg, z_pq a.2.2.2.2.2.2.2.2.2.2 = z_pq q0 → z_po (ih71 a) (fun o : (Int64 × z_Sg) => z_pq o.2 = z_pq q0)) (hq : z_pq q = z_pq q0) : z_po (k_Mo_find_283 ih71 x1 x3 x4 x5 x7 x8 x9 x10 x11 t0 q) (fun o : (Int64 × z_Sg) => z_pq o.2 = z_pq q0) := by
  unfold k_Mo_find_283
  refine po_i (fun _ => ?_) (fun _ => ?_)
  ·
    refine po_n (fun n33 _ => ?_)
    exact n_k_Mo_find_293 q0 ih71 x1 x3 x4 x5 x7 x8 x9 n33 x11 t0 q h_ih71 hq
  ·
    exact n_k_Mo_find_293 q0 ih71 x1 x3 x4 x5 x7 x8 x9 x10 x11 t0 q h_ih71 hq
set_option maxHeartbeats 4000000 in
set_option maxRecDepth 100000 in
theorem n_k_Mo_find_278 (q0 : z_Sg) (ih71 : Int64 × Int32 × Int32 × Int64 × Int32 × Int32 × Int32 × Int32 × Int64 × Int32 × z_Sg → Option (Int64 × z_Sg)) (x1 : Int64) (x3 : Int32) (x4 : Int32) (x5 : Int64) (x7 : Int32) (x8 : Int32) (x9 : Int32) (x10 : Int32) (x11 : Int64) (q : z_Sg) (h_ih71 : ∀ a : Int64 × Int32 × Int32 × Int64 × Int32 × Int32 × Int32 × Int32 × Int64 × Int32 × z_Sg, z_pq a.2.2.2.2.2.2.2.2.2.2 = z_pq q0 → z_po (ih71 a) (fun o : (Int64 × z_Sg) => z_pq o.2 = z_pq q0)) (hq : z_pq q = z_pq q0) : z_po (k_Mo_find_278 ih71 x1 x3 x4 x5 x7 x8 x9 x10 x11 q) (fun o : (Int64 × z_Sg) => z_pq o.2 = z_pq q0) := by
  unfold k_Mo_find_278
  exact n_k_Mo_find_283 q0 ih71 x1 x3 x4 x5 x7 x8 x9 x10 x11 (1 : Int32) q h_ih71 hq
set_option maxHeartbeats 4000000 in
set_option maxRecDepth 100000 in
theorem n_k_Mo_find_252 (q0 : z_Sg) (ih71 : Int64 × Int32 × Int32 × Int64 × Int32 × Int32 × Int32 × Int32 × Int64 × Int32 × z_Sg → Option (Int64 × z_Sg)) (x1 : Int64) (x3 : Int32) (x4 : Int32) (x7 : Int32) (x8 : Int32) (x10 : Int32) (x11 : Int64) (x14 : Int32) (t0 : Int32) (q : z_Sg) (h_ih71 : ∀ a : Int64 × Int32 × Int32 × Int64 × Int32 × Int32 × Int32 × Int32 × Int64 × Int32 × z_Sg, z_pq a.2.2.2.2.2.2.2.2.2.2 = z_pq q0 → z_po (ih71 a) (fun o : (Int64 × z_Sg) => z_pq o.2 = z_pq q0)) (hq : z_pq q = z_pq q0) : z_po (k_Mo_find_252 ih71 x1 x3 x4 x7 x8 x10 x11 x14 t0 q) (fun o : (Int64 × z_Sg) => z_pq o.2 = z_pq q0) := by
  unfold k_Mo_find_252
  refine po_b (R := fun _ => True) (fun _ _ => trivial) (fun r29 _ => ?_)
  refine po_n (fun n30 _ => ?_)
  refine po_i (fun _ => ?_) (fun _ => ?_)
  ·
    refine po_i (fun _ => ?_) (fun _ => ?_)
    ·
      exact n_k_Mo_find_278 q0 ih71 x1 x3 x4 n30 x7 x8 t0 x10 x11 q h_ih71 hq
    ·
      exact n_k_Mo_find_283 q0 ih71 x1 x3 x4 n30 x7 x8 t0 x10 x11 (0 : Int32) q h_ih71 hq
  ·
    exact n_k_Mo_find_278 q0 ih71 x1 x3 x4 n30 x7 x8 t0 x10 x11 q h_ih71 hq
set_option maxHeartbeats 4000000 in
set_option maxRecDepth 100000 in
theorem n_k_Mo_find_251 (q0 : z_Sg) (ih71 : Int64 × Int32 × Int32 × Int64 × Int32 × Int32 × Int32 × Int32 × Int64 × Int32 × z_Sg → Option (Int64 × z_Sg)) (x1 : Int64) (x3 : Int32) (x4 : Int32) (x7 : Int32) (x8 : Int32) (x10 : Int32) (x11 : Int64) (x14 : Int32) (q : z_Sg) (h_ih71 : ∀ a : Int64 × Int32 × Int32 × Int64 × Int32 × Int32 × Int32 × Int32 × Int64 × Int32 × z_Sg, z_pq a.2.2.2.2.2.2.2.2.2.2 = z_pq q0 → z_po (ih71 a) (fun o : (Int64 × z_Sg) => z_pq o.2 = z_pq q0)) (hq : z_pq q = z_pq q0) : z_po (k_Mo_find_251 ih71 x1 x3 x4 x7 x8 x10 x11 x14 q) (fun o : (Int64 × z_Sg) => z_pq o.2 = z_pq q0) := by
  unfold k_Mo_find_251
  exact n_k_Mo_find_252 q0 ih71 x1 x3 x4 x7 x8 x10 x11 x14 (0 : Int32) q h_ih71 hq
set_option maxHeartbeats 4000000 in
set_option maxRecDepth 100000 in
theorem n_k_Mo_find_233 (q0 : z_Sg) (ih71 : Int64 × Int32 × Int32 × Int64 × Int32 × Int32 × Int32 × Int32 × Int64 × Int32 × z_Sg → Option (Int64 × z_Sg)) (x1 : Int64) (x3 : Int32) (x4 : Int32) (x7 : Int32) (x9 : Int32) (x10 : Int32) (x11 : Int64) (x14 : Int32) (t0 : Int32) (q : z_Sg) (h_ih71 : ∀ a : Int64 × Int32 × Int32 × Int64 × Int32 × Int32 × Int32 × Int32 × Int64 × Int32 × z_Sg, z_pq a.2.2.2.2.2.2.2.2.2.2 = z_pq q0 → z_po (ih71 a) (fun o : (Int64 × z_Sg) => z_pq o.2 = z_pq q0)) (hq : z_pq q = z_pq q0) : z_po (k_Mo_find_233 ih71 x1 x3 x4 x7 x9 x10 x11 x14 t0 q) (fun o : (Int64 × z_Sg) => z_pq o.2 = z_pq q0) := by
  unfold k_Mo_find_233
  refine po_i (fun _ => ?_) (fun _ => ?_)
  ·
    exact n_k_Mo_find_251 q0 ih71 x1 x3 x4 x7 t0 x10 x11 x14 q h_ih71 hq
  ·
    refine po_i (fun _ => ?_) (fun _ => ?_)
    ·
      exact n_k_Mo_find_251 q0 ih71 x1 x3 x4 x7 t0 x10 x11 x14 q h_ih71 hq
    ·
      exact n_k_Mo_find_252 q0 ih71 x1 x3 x4 x7 t0 x10 x11 x14 (1 : Int32) q h_ih71 hq
set_option maxHeartbeats 4000000 in
set_option maxRecDepth 100000 in
theorem n_k_Mo_find_232 (q0 : z_Sg) (ih71 : Int64 × Int32 × Int32 × Int64 × Int32 × Int32 × Int32 × Int32 × Int64 × Int32 × z_Sg → Option (Int64 × z_Sg)) (x1 : Int64) (x3 : Int32) (x4 : Int32) (x7 : Int32) (x9 : Int32) (x10 : Int32) (x11 : Int64) (x14 : Int32) (q : z_Sg) (h_ih71 : ∀ a : Int64 × Int32 × Int32 × Int64 × Int32 × Int32 × Int32 × Int32 × Int64 × Int32 × z_Sg, z_pq a.2.2.2.2.2.2.2.2.2.2 = z_pq q0 → z_po (ih71 a) (fun o : (Int64 × z_Sg) => z_pq o.2 = z_pq q0)) (hq : z_pq q = z_pq q0) : z_po (k_Mo_find_232 ih71 x1 x3 x4 x7 x9 x10 x11 x14 q) (fun o : (Int64 × z_Sg) => z_pq o.2 = z_pq q0) := by
  unfold k_Mo_find_232
  exact n_k_Mo_find_233 q0 ih71 x1 x3 x4 x7 x9 x10 x11 x14 (0 : Int32) q h_ih71 hq
set_option maxHeartbeats 4000000 in
set_option maxRecDepth 100000 in
theorem n_k_Mo_find_210 (q0 : z_Sg) (ih71 : Int64 × Int32 × Int32 × Int64 × Int32 × Int32 × Int32 × Int32 × Int64 × Int32 × z_Sg → Option (Int64 × z_Sg)) (x1 : Int64) (x3 : Int32) (x4 : Int32) (x8 : Int32) (x9 : Int32) (x10 : Int32) (x11 : Int64) (x14 : Int32) (t0 : Int32) (q : z_Sg) (h_ih71 : ∀ a : Int64 × Int32 × Int32 × Int64 × Int32 × Int32 × Int32 × Int32 × Int64 × Int32 × z_Sg, z_pq a.2.2.2.2.2.2.2.2.2.2 = z_pq q0 → z_po (ih71 a) (fun o : (Int64 × z_Sg) => z_pq o.2 = z_pq q0)) (hq : z_pq q = z_pq q0) : z_po (k_Mo_find_210 ih71 x1 x3 x4 x8 x9 x10 x11 x14 t0 q) (fun o : (Int64 × z_Sg) => z_pq o.2 = z_pq q0) := by
  unfold k_Mo_find_210
  refine po_i (fun _ => ?_) (fun _ => ?_)
  ·
    exact n_k_Mo_find_232 q0 ih71 x1 x3 x4 t0 x9 x10 x11 x14 q h_ih71 hq
  ·
    refine po_i (fun _ => ?_) (fun _ => ?_)
    ·
      exact n_k_Mo_find_232 q0 ih71 x1 x3 x4 t0 x9 x10 x11 x14 q h_ih71 hq
    ·
      exact n_k_Mo_find_233 q0 ih71 x1 x3 x4 t0 x9 x10 x11 x14 (1 : Int32) q h_ih71 hq
set_option maxHeartbeats 4000000 in
set_option maxRecDepth 100000 in
theorem n_k_Mo_find_209 (q0 : z_Sg) (ih71 : Int64 × Int32 × Int32 × Int64 × Int32 × Int32 × Int32 × Int32 × Int64 × Int32 × z_Sg → Option (Int64 × z_Sg)) (x1 : Int64) (x3 : Int32) (x4 : Int32) (x8 : Int32) (x9 : Int32) (x10 : Int32) (x11 : Int64) (x14 : Int32) (q : z_Sg) (h_ih71 : ∀ a : Int64 × Int32 × Int32 × Int64 × Int32 × Int32 × Int32 × Int32 × Int64 × Int32 × z_Sg, z_pq a.2.2.2.2.2.2.2.2.2.2 = z_pq q0 → z_po (ih71 a) (fun o : (Int64 × z_Sg) => z_pq o.2 = z_pq q0)) (hq : z_pq q = z_pq q0) : z_po (k_Mo_find_209 ih71 x1 x3 x4 x8 x9 x10 x11 x14 q) (fun o : (Int64 × z_Sg) => z_pq o.2 = z_pq q0) := by
  unfold k_Mo_find_209
  exact n_k_Mo_find_210 q0 ih71 x1 x3 x4 x8 x9 x10 x11 x14 (0 : Int32) q h_ih71 hq
set_option maxHeartbeats 4000000 in
set_option maxRecDepth 100000 in
theorem n_k_Mo_find_189 (q0 : z_Sg) (ih71 : Int64 × Int32 × Int32 × Int64 × Int32 × Int32 × Int32 × Int32 × Int64 × Int32 × z_Sg → Option (Int64 × z_Sg)) (x1 : Int64) (x3 : Int32) (x4 : Int32) (x7 : Int32) (x8 : Int32) (x9 : Int32) (x10 : Int32) (x11 : Int64) (x14 : Int32) (q : z_Sg) (h_ih71 : ∀ a : Int64 × Int32 × Int32 × Int64 × Int32 × Int32 × Int32 × Int32 × Int64 × Int32 × z_Sg, z_pq a.2.2.2.2.2.2.2.2.2.2 = z_pq q0 → z_po (ih71 a) (fun o : (Int64 × z_Sg) => z_pq o.2 = z_pq q0)) (hq : z_pq q = z_pq q0) : z_po (k_Mo_find_189 ih71 x1 x3 x4 x7 x8 x9 x10 x11 x14 q) (fun o : (Int64 × z_Sg) => z_pq o.2 = z_pq q0) := by
  unfold k_Mo_find_189
  refine po_i (fun _ => ?_) (fun _ => ?_)
  ·
    exact n_k_Mo_find_209 q0 ih71 x1 x3 x4 x8 x9 x10 x11 x14 q h_ih71 hq
  ·
    refine po_i (fun _ => ?_) (fun _ => ?_)
    ·
      exact n_k_Mo_find_209 q0 ih71 x1 x3 x4 x8 x9 x10 x11 x14 q h_ih71 hq
    ·
      exact n_k_Mo_find_210 q0 ih71 x1 x3 x4 x8 x9 x10 x11 x14 (1 : Int32) q h_ih71 hq
set_option maxHeartbeats 4000000 in
set_option maxRecDepth 100000 in
theorem n_k_Mo_find_185 (q0 : z_Sg) (q : z_Sg) (hq : z_pq q = z_pq q0) : z_po (k_Mo_find_185 q) (fun o : (Int64 × z_Sg) => z_pq o.2 = z_pq q0) := by
  unfold k_Mo_find_185
  exact po_s hq
set_option maxHeartbeats 4000000 in
set_option maxRecDepth 100000 in
theorem n_k_Mo_find_130 (q0 : z_Sg) (ih71 : Int64 × Int32 × Int32 × Int64 × Int32 × Int32 × Int32 × Int32 × Int64 × Int32 × z_Sg → Option (Int64 × z_Sg)) (x1 : Int64) (x3 : Int32) (x4 : Int32) (x7 : Int32) (x8 : Int32) (x9 : Int32) (x10 : Int32) (x11 : Int64) (t0 : Int32) (q : z_Sg) (h_ih71 : ∀ a : Int64 × Int32 × Int32 × Int64 × Int32 × Int32 × Int32 × Int32 × Int64 × Int32 × z_Sg, z_pq a.2.2.2.2.2.2.2.2.2.2 = z_pq q0 → z_po (ih71 a) (fun o : (Int64 × z_Sg) => z_pq o.2 = z_pq q0)) (hq : z_pq q = z_pq q0) : z_po (k_Mo_find_130 ih71 x1 x3 x4 x7 x8 x9 x10 x11 t0 q) (fun o : (Int64 × z_Sg) => z_pq o.2 = z_pq q0) := by
  unfold k_Mo_find_130
  refine po_n (fun q22 e_q22 => ?_)
  have h_q22 : z_pq q22 = z_pq q0 := by rw [e_q22]; exact hq
  refine po_i (fun _ => ?_) (fun _ => ?_)
  ·
    exact po_s h_q22
  ·
    refine po_n (fun q24 e_q24 => ?_)
    have h_q24 : z_pq q24 = z_pq q0 := by rw [e_q24]; exact h_q22
    refine po_i (fun _ => ?_) (fun _ => ?_)
    ·
      exact n_k_Mo_find_189 q0 ih71 x1 x3 x4 x7 x8 x9 x10 x11 t0 q24 h_ih71 h_q24
    ·
      refine po_i (fun _ => ?_) (fun _ => ?_)
      ·
        exact n_k_Mo_find_185 q0 q24 h_q24
      ·
        refine po_b (R := fun _ => True) (fun _ _ => trivial) (fun r39 _ => ?_)
        refine po_i (fun _ => ?_) (fun _ => ?_)
        ·
          exact n_k_Mo_find_189 q0 ih71 x1 x3 x4 x7 x8 x9 x10 x11 t0 q24 h_ih71 h_q24
        ·
          exact n_k_Mo_find_185 q0 q24 h_q24
set_option maxHeartbeats 4000000 in
set_option maxRecDepth 100000 in
theorem n_k_Mo_find_129 (q0 : z_Sg) (ih71 : Int64 × Int32 × Int32 × Int64 × Int32 × Int32 × Int32 × Int32 × Int64 × Int32 × z_Sg → Option (Int64 × z_Sg)) (x1 : Int64) (x3 : Int32) (x4 : Int32) (x7 : Int32) (x8 : Int32) (x9 : Int32) (x10 : Int32) (x11 : Int64) (q : z_Sg) (h_ih71 : ∀ a : Int64 × Int32 × Int32 × Int64 × Int32 × Int32 × Int32 × Int32 × Int64 × Int32 × z_Sg, z_pq a.2.2.2.2.2.2.2.2.2.2 = z_pq q0 → z_po (ih71 a) (fun o : (Int64 × z_Sg) => z_pq o.2 = z_pq q0)) (hq : z_pq q = z_pq q0) : z_po (k_Mo_find_129 ih71 x1 x3 x4 x7 x8 x9 x10 x11 q) (fun o : (Int64 × z_Sg) => z_pq o.2 = z_pq q0) := by
  unfold k_Mo_find_129
  exact n_k_Mo_find_130 q0 ih71 x1 x3 x4 x7 x8 x9 x10 x11 (0 : Int32) q h_ih71 hq
set_option maxHeartbeats 4000000 in
set_option maxRecDepth 100000 in
theorem n_kb_Mo_find_71 (q0 : z_Sg) (ih71 : Int64 × Int32 × Int32 × Int64 × Int32 × Int32 × Int32 × Int32 × Int64 × Int32 × z_Sg → Option (Int64 × z_Sg)) (x1 : Int64) (x3 : Int32) (x4 : Int32) (x5 : Int64) (x7 : Int32) (x8 : Int32) (x9 : Int32) (x10 : Int32) (x11 : Int64) (x13 : Int32) (q : z_Sg) (h_ih71 : ∀ a : Int64 × Int32 × Int32 × Int64 × Int32 × Int32 × Int32 × Int32 × Int64 × Int32 × z_Sg, z_pq a.2.2.2.2.2.2.2.2.2.2 = z_pq q0 → z_po (ih71 a) (fun o : (Int64 × z_Sg) => z_pq o.2 = z_pq q0)) (hq : z_pq q = z_pq q0) : z_po (kb_Mo_find_71 ih71 x1 x3 x4 x5 x7 x8 x9 x10 x11 x13 q) (fun o : (Int64 × z_Sg) => z_pq o.2 = z_pq q0) := by
  unfold kb_Mo_find_71
  refine po_i (fun _ => ?_) (fun _ => ?_)
  ·
    refine po_b (R := fun _ => True) (fun _ _ => trivial) (fun r19 _ => ?_)
    refine po_b (R := fun _ => True) (fun _ _ => trivial) (fun r20 _ => ?_)
    refine po_i (fun _ => ?_) (fun _ => ?_)
    ·
      exact n_k_Mo_find_129 q0 ih71 x1 x3 x4 x7 x8 x9 x10 r20 q h_ih71 hq
    ·
      refine po_i (fun _ => ?_) (fun _ => ?_)
      ·
        exact n_k_Mo_find_129 q0 ih71 x1 x3 x4 x7 x8 x9 x10 r20 q h_ih71 hq
      ·
        exact n_k_Mo_find_130 q0 ih71 x1 x3 x4 x7 x8 x9 x10 r20 (1 : Int32) q h_ih71 hq
  ·
    refine po_n (fun q8 e_q8 => ?_)
    have h_q8 : z_pq q8 = z_pq q0 := by rw [e_q8]; exact hq
    refine po_i (fun _ => ?_) (fun _ => ?_)
    ·
      refine po_i (fun _ => ?_) (fun _ => ?_)
      ·
        exact n_k_Mo_find_336 q0 q8 h_q8
      ·
        exact n_k_Mo_find_314 q0 x1 x3 x5 x8 x9 x10 x11 q8 h_q8
    ·
      exact n_k_Mo_find_314 q0 x1 x3 x5 x8 x9 x10 x11 q8 h_q8
set_option maxHeartbeats 4000000 in
set_option maxRecDepth 100000 in
theorem n_k_Mo_find_71 (q0 : z_Sg) (x1 : Int64) (x3 : Int32) (x4 : Int32) (x5 : Int64) (x7 : Int32) (x8 : Int32) (x9 : Int32) (x10 : Int32) (x11 : Int64) (x13 : Int32) (q : z_Sg) (hq : z_pq q = z_pq q0) : z_po (k_Mo_find_71 x1 x3 x4 x5 x7 x8 x9 x10 x11 x13 q) (fun o : (Int64 × z_Sg) => z_pq o.2 = z_pq q0) := by
  unfold k_Mo_find_71
  exact po_l (fun a : Int64 × Int32 × Int32 × Int64 × Int32 × Int32 × Int32 × Int32 × Int64 × Int32 × z_Sg => z_pq a.2.2.2.2.2.2.2.2.2.2 = z_pq q0) (fun ih71 a ha hih => n_kb_Mo_find_71 q0 ih71 a.1 a.2.1 a.2.2.1 a.2.2.2.1 a.2.2.2.2.1 a.2.2.2.2.2.1 a.2.2.2.2.2.2.1 a.2.2.2.2.2.2.2.1 a.2.2.2.2.2.2.2.2.1 a.2.2.2.2.2.2.2.2.2.1 a.2.2.2.2.2.2.2.2.2.2  hih ha) _ _ hq
set_option maxHeartbeats 4000000 in
set_option maxRecDepth 100000 in
theorem n_k_Mo_find_34 (q0 : z_Sg) (x1 : Int64) (x3 : Int32) (t0 : Int32) (t1 : Int32) (q : z_Sg) (hq : z_pq q = z_pq q0) : z_po (k_Mo_find_34 x1 x3 t0 t1 q) (fun o : (Int64 × z_Sg) => z_pq o.2 = z_pq q0) := by
  unfold k_Mo_find_34
  refine po_n (fun n4 _ => ?_)
  refine po_b (R := fun _ => True) (fun _ _ => trivial) (fun r5 _ => ?_)
  refine po_n (fun n6 _ => ?_)
  exact n_k_Mo_find_71 q0 x1 x3 n4 n6 (1 : Int32) (1 : Int32) (1 : Int32) (3 : Int32) (0 : Int64) (0 : Int32) q hq
set_option maxHeartbeats 4000000 in
set_option maxRecDepth 100000 in
theorem n_k_Mo_find_22 (q0 : z_Sg) (x1 : Int64) (x3 : Int32) (t0 : Int32) (t1 : Int32) (q : z_Sg) (hq : z_pq q = z_pq q0) : z_po (k_Mo_find_22 x1 x3 t0 t1 q) (fun o : (Int64 × z_Sg) => z_pq o.2 = z_pq q0) := by
  unfold k_Mo_find_22
  refine po_i (fun _ => ?_) (fun _ => ?_)
  ·
    exact n_k_Mo_find_34 q0 x1 x3 (t0 + t1) (16 : Int32) q hq
  ·
    exact n_k_Mo_find_34 q0 x1 x3 (t0 + t1) (0 : Int32) q hq
set_option maxHeartbeats 4000000 in
set_option maxRecDepth 100000 in
theorem n_k_Mo_find_10 (q0 : z_Sg) (x1 : Int64) (x3 : Int32) (t0 : Int32) (q : z_Sg) (hq : z_pq q = z_pq q0) : z_po (k_Mo_find_10 x1 x3 t0 q) (fun o : (Int64 × z_Sg) => z_pq o.2 = z_pq q0) := by
  unfold k_Mo_find_10
  refine po_i (fun _ => ?_) (fun _ => ?_)
  ·
    exact n_k_Mo_find_22 q0 x1 x3 t0 (0 : Int32) q hq
  ·
    exact n_k_Mo_find_22 q0 x1 x3 t0 (4 : Int32) q hq
set_option maxHeartbeats 4000000 in
set_option maxRecDepth 100000 in
theorem n_f_Mo_find (q0 : z_Sg) (x1 : Int64) (x3 : Int32) (q : z_Sg) (hq : z_pq q = z_pq q0) : z_po (f_Mo_find x1 x3 q) (fun o : (Int64 × z_Sg) => z_pq o.2 = z_pq q0) := by
  unfold f_Mo_find
  refine po_i (fun _ => ?_) (fun _ => ?_)
  ·
    exact n_k_Mo_find_10 q0 x1 x3 (2 : Int32) q hq
  ·
    exact n_k_Mo_find_10 q0 x1 x3 (0 : Int32) q hq
set_option maxHeartbeats 4000000 in
set_option maxRecDepth 100000 in
theorem n_k_Mo_lookUp_107 (q0 : z_Sg) (q : z_Sg) (hq : z_pq q = z_pq q0) : z_po (k_Mo_lookUp_107 q) (fun o : z_Sg => z_pq o = z_pq q0) := by
  unfold k_Mo_lookUp_107
  exact po_s hq
set_option maxHeartbeats 4000000 in
set_option maxRecDepth 100000 in
theorem n_k_Mo_lookUp_101 (q0 : z_Sg) (ih3 : Int64 × Int32 × Int32 × Int32 × Int32 × z_Sg → Option z_Sg) (x1 : Int64) (x3 : Int32) (x4 : Int32) (x5 : Int32) (x6 : Int32) (q : z_Sg) (h_ih3 : ∀ a : Int64 × Int32 × Int32 × Int32 × Int32 × z_Sg, z_pq a.2.2.2.2.2 = z_pq q0 → z_po (ih3 a) (fun o : z_Sg => z_pq o = z_pq q0)) (hq : z_pq q = z_pq q0) : z_po (k_Mo_lookUp_101 ih3 x1 x3 x4 x5 x6 q) (fun o : z_Sg => z_pq o = z_pq q0) := by
  unfold k_Mo_lookUp_101
  refine po_n (fun n13 _ => ?_)
  exact h_ih3 _ hq
set_option maxHeartbeats 4000000 in
set_option maxRecDepth 100000 in
theorem n_k_Mo_lookUp_41 (q0 : z_Sg) (t1 : Int32) (q : z_Sg) (hq : z_pq q = z_pq q0) : z_po (k_Mo_lookUp_41 t1 q) (fun o : z_Sg => z_pq o = z_pq q0) := by
  unfold k_Mo_lookUp_41
  refine po_b (n_f_Mo_refuse q0 t1 q hq) (fun r15 h_r15 => ?_)
  exact po_s h_r15
set_option maxHeartbeats 4000000 in
set_option maxRecDepth 100000 in
theorem n_kb_Mo_lookUp_3 (q0 : z_Sg) (ih3 : Int64 × Int32 × Int32 × Int32 × Int32 × z_Sg → Option z_Sg) (x1 : Int64) (x3 : Int32) (x4 : Int32) (x5 : Int32) (x6 : Int32) (q : z_Sg) (h_ih3 : ∀ a : Int64 × Int32 × Int32 × Int32 × Int32 × z_Sg, z_pq a.2.2.2.2.2 = z_pq q0 → z_po (ih3 a) (fun o : z_Sg => z_pq o = z_pq q0)) (hq : z_pq q = z_pq q0) : z_po (kb_Mo_lookUp_3 ih3 x1 x3 x4 x5 x6 q) (fun o : z_Sg => z_pq o = z_pq q0) := by
  unfold kb_Mo_lookUp_3
  refine po_i (fun _ => ?_) (fun _ => ?_)
  ·
    exact n_k_Mo_lookUp_107 q0 q hq
  ·
    refine po_i (fun _ => ?_) (fun _ => ?_)
    ·
      refine po_b (R := fun _ => True) (fun _ _ => trivial) (fun r3 _ => ?_)
      refine po_i (fun _ => ?_) (fun _ => ?_)
      ·
        refine po_b (n_f_Mo_find q0 (x1 + x6.toInt64) x4 q hq) (fun r5 h_r5 => ?_)
        refine po_g (fun _ => ?_)
        refine po_n (fun q7 e_q7 => ?_)
        have h_q7 : z_pq q7 = z_pq q0 := by rw [e_q7]; exact h_r5
        refine po_g (fun _ => ?_)
        refine po_i (fun _ => ?_) (fun _ => ?_)
        ·
          refine po_b (n_f_Mo_refuse q0 (14 : Int32) q7 h_q7) (fun r10 h_r10 => ?_)
          refine po_n (fun q11 e_q11 => ?_)
          have h_q11 : z_pq q11 = z_pq q0 := by rw [e_q11]; exact h_r10
          refine po_n (fun q12 e_q12 => ?_)
          have h_q12 : z_pq q12 = z_pq q0 := by rw [e_q12]; exact h_q11
          exact n_k_Mo_lookUp_101 q0 ih3 x1 x3 x4 x5 x6 q12 h_ih3 h_q12
        ·
          exact n_k_Mo_lookUp_101 q0 ih3 x1 x3 x4 x5 x6 q7 h_ih3 h_q7
      ·
        refine po_i (fun _ => ?_) (fun _ => ?_)
        ·
          exact n_k_Mo_lookUp_41 q0 (13 : Int32) q hq
        ·
          exact n_k_Mo_lookUp_41 q0 (12 : Int32) q hq
    ·
      exact n_k_Mo_lookUp_107 q0 q hq
set_option maxHeartbeats 4000000 in
set_option maxRecDepth 100000 in
theorem n_k_Mo_lookUp_3 (q0 : z_Sg) (x1 : Int64) (x3 : Int32) (x4 : Int32) (x5 : Int32) (x6 : Int32) (q : z_Sg) (hq : z_pq q = z_pq q0) : z_po (k_Mo_lookUp_3 x1 x3 x4 x5 x6 q) (fun o : z_Sg => z_pq o = z_pq q0) := by
  unfold k_Mo_lookUp_3
  exact po_l (fun a : Int64 × Int32 × Int32 × Int32 × Int32 × z_Sg => z_pq a.2.2.2.2.2 = z_pq q0) (fun ih3 a ha hih => n_kb_Mo_lookUp_3 q0 ih3 a.1 a.2.1 a.2.2.1 a.2.2.2.1 a.2.2.2.2.1 a.2.2.2.2.2  hih ha) _ _ hq
set_option maxHeartbeats 4000000 in
set_option maxRecDepth 100000 in
theorem n_f_Mo_lookUp (q0 : z_Sg) (x1 : Int64) (x3 : Int32) (x4 : Int32) (x5 : Int32) (q : z_Sg) (hq : z_pq q = z_pq q0) : z_po (f_Mo_lookUp x1 x3 x4 x5 q) (fun o : z_Sg => z_pq o = z_pq q0) := by
  unfold f_Mo_lookUp
  exact n_k_Mo_lookUp_3 q0 x1 x3 x4 x5 (0 : Int32) q hq
set_option maxHeartbeats 4000000 in
set_option maxRecDepth 100000 in
theorem n_k_Mo_fetch_23 (q0 : z_Sg) (q : z_Sg) (hq : z_pq q = z_pq q0) : z_po (k_Mo_fetch_23 q) (fun o : (Int32 × z_Sg) => z_pq o.2 = z_pq q0) := by
  unfold k_Mo_fetch_23
  refine po_b (n_f_Mo_lookUp q0 ((z_gL q 0) + (z_gI q 6).toInt64) (1 : Int32) (2 : Int32) (0 : Int32) q hq) (fun r2 h_r2 => ?_)
  refine po_i (fun _ => ?_) (fun _ => ?_)
  ·
    refine po_n (fun q4 e_q4 => ?_)
    have h_q4 : z_pq q4 = z_pq q0 := by rw [e_q4]; exact h_r2
    refine po_g (fun _ => ?_)
    refine po_b (R := fun _ => True) (fun _ _ => trivial) (fun r6 _ => ?_)
    exact po_s h_q4
  ·
    exact po_s h_r2
set_option maxHeartbeats 4000000 in
set_option maxRecDepth 100000 in
theorem n_f_Mo_fetch (q0 : z_Sg) (q : z_Sg) (hq : z_pq q = z_pq q0) : z_po (f_Mo_fetch q) (fun o : (Int32 × z_Sg) => z_pq o.2 = z_pq q0) := by
  unfold f_Mo_fetch
  refine po_i (fun _ => ?_) (fun _ => ?_)
  ·
    refine po_i (fun _ => ?_) (fun _ => ?_)
    ·
      refine po_b (n_f_Mo_refuse q0 (13 : Int32) q hq) (fun r8 h_r8 => ?_)
      exact n_k_Mo_fetch_23 q0 r8 h_r8
    ·
      exact n_k_Mo_fetch_23 q0 q hq
  ·
    exact n_k_Mo_fetch_23 q0 q hq
def OP (q0 o : z_Sg) : Prop := z_gN o 1 = z_gN q0 1 ∧ rp (z_gI o 11)
theorem OP_f {q0 q : z_Sg} (h : OP q0 q) : z_po (f_Mo_fetch q) (fun o => OP q0 o.2) := by
  refine po_w (n_f_Mo_fetch q q rfl) (fun o ho => ?_)
  have e1 : z_gN o.2 1 = z_gN q 1 := congrArg Prod.fst ho
  have e2 : z_gI o.2 11 = z_gI q 11 := congrArg Prod.snd ho
  exact ⟨e1.trans h.1, by rw [e2]; exact h.2⟩
theorem OP_148 {q0 q : z_Sg} (x1 t1 : Int32) (h : OP q0 q) : z_po (k_Mo_open_148 x1 t1 q) (OP q0) := by
  unfold k_Mo_open_148 k_Mo_open_167
  refine po_G (fun _ => po_n (fun q9 e => ?_))
  have h9 : OP q0 q9 := by rw [e]; exact h
  refine po_i (fun _ => po_n (fun q11 e11 => po_s ?_)) (fun _ => po_b (OP_f h9) (fun r hr => po_n (fun q11 e11 => po_s ?_)))
  · rw [e11]; exact h9
  · rw [e11]; exact hr
theorem OP_128 {q0 q : z_Sg} (x1 : Int32) (h : OP q0 q) : z_po (k_Mo_open_128 x1 q) (OP q0) := by
  unfold k_Mo_open_128 k_Mo_open_147
  exact po_i (fun _ => po_i (fun _ => OP_148 x1 1 h) (fun _ => OP_148 x1 0 h)) (fun _ => OP_148 x1 0 h)
theorem OP_65 {q0 q : z_Sg} {ih : Int32 × z_Sg → Option z_Sg} {x1 : Int32} (hx : x1 ≤ 240 ∨ x1 = 242 ∨ x1 = 243) (hih : ∀ a : Int32 × z_Sg, OP q0 a.2 → z_po (ih a) (OP q0)) (h : OP q0 q) : z_po (k_Mo_open_65 ih x1 q) (OP q0) := by
  have a120 : ∀ q, OP q0 q → z_po (k_Mo_open_120 ih q) (OP q0) := by
    intro q hq
    unfold k_Mo_open_120
    exact po_b (OP_f hq) (fun r hr => hih (r.1, r.2) hr)
  have a105 : ∀ t q, OP q0 q → z_po (k_Mo_open_105 ih x1 t q) (OP q0) := by
    intro t q hq
    unfold k_Mo_open_105
    refine po_G (fun _ => po_n (fun q19 e => ?_))
    have h19 : OP q0 q19 := by rw [e]; exact hq
    refine po_i (fun _ => a120 q19 h19) (fun c => po_n (fun q22 e2 => a120 q22 ?_))
    rw [e2]
    exact ⟨h19.1, by
      show rp x1
      rcases hx with x | x | x
      · exact absurd x c
      · exact Or.inr (Or.inl x)
      · exact Or.inr (Or.inr x)⟩
  have a83 : ∀ t q, OP q0 q → z_po (k_Mo_open_83 ih x1 t q) (OP q0) := by
    intro t q hq
    unfold k_Mo_open_83 k_Mo_open_100
    refine po_n (fun q16 e => ?_)
    have h16 : OP q0 q16 := by rw [e]; exact hq
    exact po_i (fun _ => po_i (fun _ => a105 1 q16 h16) (fun _ => a105 0 q16 h16)) (fun _ => a105 1 q16 h16)
  unfold k_Mo_open_65 k_Mo_open_82
  exact po_i (fun _ => a83 0 q h) (fun _ => po_i (fun _ => a83 0 q h) (fun _ => a83 x1 q h))
theorem OP_25 {q0 : z_Sg} (x1 : Int32) (q : z_Sg) (h : OP q0 q) : z_po (k_Mo_open_25 x1 q) (OP q0) := by
  unfold k_Mo_open_25
  refine po_l (fun a : Int32 × z_Sg => OP q0 a.2) (fun ih a ha hih => ?_) _ _ h
  show z_po (kb_Mo_open_25 ih a.1 a.2) (OP q0)
  unfold kb_Mo_open_25
  refine po_i (fun _ => ?_) (fun _ => OP_128 _ ha)
  refine po_i (fun c => OP_65 (Or.inl (by rw [c]; decide)) hih ha) (fun _ => ?_)
  refine po_i (fun c => OP_65 (Or.inr (Or.inl c)) hih ha) (fun _ => ?_)
  refine po_i (fun c => OP_65 (Or.inr (Or.inr c)) hih ha) (fun _ => ?_)
  refine po_i (fun _ => OP_128 _ ha) (fun _ => ?_)
  refine po_i (fun _ => OP_128 _ ha) (fun c => OP_65 (Or.inl ?_) hih ha)
  rw [Int32.not_lt] at c
  exact Int32.le_trans c (by decide)
theorem OP_o (q : z_Sg) : z_po (f_Mo_open q) (OP q) := by
  unfold f_Mo_open
  refine po_n (fun q1 e1 => po_n (fun q2 e2 => po_n (fun q3 e3 => po_n (fun q4 e4 => ?_))))
  have h4 : OP q q4 := by rw [e4, e3, e2, e1]; exact ⟨rfl, Or.inl rfl⟩
  exact po_b (OP_f h4) (fun r hr => OP_25 r.1 r.2 hr)
