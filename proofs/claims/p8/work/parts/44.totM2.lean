set_option maxHeartbeats 4000000 in
set_option maxRecDepth 100000 in
theorem t_k_Mo_divide_356 (W : Nat) (S : z_SS) (x3 : Int32) (x8 : Int32) (x11 : Int32) (t0 : Int32) (q : z_Sg) (hx3 : y_in x3 (1) (8)) (hx8 : y_in x8 (0) (1)) (hx11 : y_in x11 (0) (1)) (ht0 : y_in t0 (0) (1)) (hq : iM W S q) (hW : W + 0 ≤ 16) : z_ok (k_Mo_divide_356 x3 x8 x11 t0 q) (fun o : z_Sg => iM W S o) := by
  unfold k_Mo_divide_356
  refine z_ok_i (fun c234427 => ?_) (fun c234427 => ?_)
  · have z234428 : y_in t0 (0) (0) := z_w (z_eq1 c234427 (show y_in (0 : Int32) (0) (0) from ⟨by decide, by decide⟩)) (by decide) (by decide)
    refine z_ok_b (t_f_Mo_refuse W S (0 : Int32) q (z_w (show y_in (0 : Int32) (0) (0) from ⟨by decide, by decide⟩) (by decide) (by decide)) hq (by omega)) (fun r38 hr38 => ?_)
    exact t_k_Mo_divide_368 W S x3 x8 x11 r38 hx3 hx8 hx11 hr38 hW
  · have z234429 : y_in t0 (1) (1) := z_w (z_ne1 c234427 ht0 (by decide)) (by decide) (by decide)
    exact t_k_Mo_divide_368 W S x3 x8 x11 q hx3 hx8 hx11 hq hW

set_option maxHeartbeats 4000000 in
set_option maxRecDepth 100000 in
theorem t_k_Mo_divide_351 (W : Nat) (S : z_SS) (x3 : Int32) (x8 : Int32) (x11 : Int32) (q : z_Sg) (hx3 : y_in x3 (1) (8)) (hx8 : y_in x8 (0) (1)) (hx11 : y_in x11 (0) (1)) (hq : iM W S q) (hW : W + 0 ≤ 16) : z_ok (k_Mo_divide_351 x3 x8 x11 q) (fun o : z_Sg => iM W S o) := by
  unfold k_Mo_divide_351
  exact t_k_Mo_divide_356 W S x3 x8 x11 (1 : Int32) q hx3 hx8 hx11 (z_w (show y_in (1 : Int32) (1) (1) from ⟨by decide, by decide⟩) (by decide) (by decide)) hq hW

set_option maxHeartbeats 4000000 in
set_option maxRecDepth 100000 in
theorem t_k_Mo_divide_355 (W : Nat) (S : z_SS) (x3 : Int32) (x8 : Int32) (x11 : Int32) (q : z_Sg) (hx3 : y_in x3 (1) (8)) (hx8 : y_in x8 (0) (1)) (hx11 : y_in x11 (0) (1)) (hq : iM W S q) (hW : W + 0 ≤ 16) : z_ok (k_Mo_divide_355 x3 x8 x11 q) (fun o : z_Sg => iM W S o) := by
  unfold k_Mo_divide_355
  exact t_k_Mo_divide_356 W S x3 x8 x11 (0 : Int32) q hx3 hx8 hx11 (z_w (show y_in (0 : Int32) (0) (0) from ⟨by decide, by decide⟩) (by decide) (by decide)) hq hW

set_option maxHeartbeats 4000000 in
set_option maxRecDepth 100000 in
theorem t_k_Mo_divide_313 (W : Nat) (S : z_SS) (x3 : Int32) (x8 : Int32) (x11 : Int32) (q : z_Sg) (hx3 : y_in x3 (1) (8)) (hx8 : y_in x8 (0) (1)) (hx11 : y_in x11 (0) (1)) (hq : iM W S q) (hW : W + 0 ≤ 16) : z_ok (k_Mo_divide_313 x3 x8 x11 q) (fun o : z_Sg => iM W S o) := by
  unfold k_Mo_divide_313
  exact t_k_Mo_divide_356 W S x3 x8 x11 (1 : Int32) q hx3 hx8 hx11 (z_w (show y_in (1 : Int32) (1) (1) from ⟨by decide, by decide⟩) (by decide) (by decide)) hq hW

set_option maxHeartbeats 4000000 in
set_option maxRecDepth 100000 in
theorem t_k_Mo_divide_272 (W : Nat) (S : z_SS) (x3 : Int32) (x4 : Int32) (x8 : Int32) (x11 : Int32) (t0 : Int64) (t1 : Int32) (q : z_Sg) (hx3 : y_in x3 (1) (8)) (hx4 : y_in x4 (0) (1)) (hx8 : y_in x8 (0) (1)) (hx11 : y_in x11 (0) (1)) (ht1 : y_in t1 (0) (1)) (hq : iM W S q) (hW : W + 0 ≤ 16) : z_ok (k_Mo_divide_272 x3 x4 x8 x11 t0 t1 q) (fun o : z_Sg => iM W S o) := by
  unfold k_Mo_divide_272
  refine z_ok_n (fun n21 en21 => ?_)
  refine z_ok_n (fun n22 en22 => ?_)
  refine z_ok_i (fun c234430 => ?_) (fun c234430 => ?_)
  · have z234431 : y_in x4 (0) (0) := z_w (z_eq1 c234430 (show y_in (0 : Int32) (0) (0) from ⟨by decide, by decide⟩)) (by decide) (by decide)
    refine z_ok_i (fun c234432 => ?_) (fun c234432 => ?_)
    · have z234433 : y_in x3 (8) (8) := z_w (z_eq1 c234432 (show y_in (8 : Int32) (8) (8) from ⟨by decide, by decide⟩)) (by decide) (by decide)
      exact t_k_Mo_divide_313 W S x3 x8 x11 q (z_w z234433 (by decide) (by decide)) hx8 hx11 hq hW
    · have z234434 : y_in x3 (1) (7) := z_w (z_ne2 c234432 hx3 (by decide)) (by decide) (by decide)
      refine z_ok_i (fun c234435 => ?_) (fun c234435 => ?_)
      · exact t_k_Mo_divide_356 W S x3 x8 x11 (0 : Int32) q (z_w z234434 (by decide) (by decide)) hx8 hx11 (z_w (show y_in (0 : Int32) (0) (0) from ⟨by decide, by decide⟩) (by decide) (by decide)) hq hW
      · exact t_k_Mo_divide_313 W S x3 x8 x11 q (z_w z234434 (by decide) (by decide)) hx8 hx11 hq hW
  · have z234436 : y_in x4 (1) (1) := z_w (z_ne1 c234430 hx4 (by decide)) (by decide) (by decide)
    refine z_ok_i (fun c234437 => ?_) (fun c234437 => ?_)
    · exact t_k_Mo_divide_351 W S x3 x8 x11 q hx3 hx8 hx11 hq hW
    · refine z_ok_i (fun c234438 => ?_) (fun c234438 => ?_)
      · have z234439 : y_in x11 (0) (0) := z_w (z_eq1 c234438 (show y_in (0 : Int32) (0) (0) from ⟨by decide, by decide⟩)) (by decide) (by decide)
        exact t_k_Mo_divide_355 W S x3 x8 x11 q hx3 hx8 (z_w z234439 (by decide) (by decide)) hq hW
      · have z234440 : y_in x11 (1) (1) := z_w (z_ne1 c234438 hx11 (by decide)) (by decide) (by decide)
        refine z_ok_i (fun c234441 => ?_) (fun c234441 => ?_)
        · exact t_k_Mo_divide_351 W S x3 x8 x11 q hx3 hx8 (z_w z234440 (by decide) (by decide)) hq hW
        · exact t_k_Mo_divide_355 W S x3 x8 x11 q hx3 hx8 (z_w z234440 (by decide) (by decide)) hq hW

set_option maxHeartbeats 4000000 in
set_option maxRecDepth 100000 in
theorem t_k_Mo_divide_241 (W : Nat) (S : z_SS) (x3 : Int32) (x4 : Int32) (x8 : Int32) (x11 : Int32) (t1 : Int64) (q : z_Sg) (hx3 : y_in x3 (1) (8)) (hx4 : y_in x4 (0) (1)) (hx8 : y_in x8 (0) (1)) (hx11 : y_in x11 (0) (1)) (hq : iM W S q) (hW : W + 0 ≤ 16) : z_ok (k_Mo_divide_241 x3 x4 x8 x11 t1 q) (fun o : z_Sg => iM W S o) := by
  unfold k_Mo_divide_241
  refine z_ok_b (t_f_Mo_quotient W S t1 (64 : Int32) q (show y_in (64 : Int32) (64) (64) from ⟨by decide, by decide⟩) hq (by omega)) (fun r17 hr17 => ?_)
  refine z_ok_i (fun c234442 => ?_) (fun c234442 => ?_)
  · have z234443 : y_in r17.1 (0) (0) := z_w (z_eq1 c234442 (show y_in (0 : Int32) (0) (0) from ⟨by decide, by decide⟩)) (by decide) (by decide)
    refine z_ok_b (t_f_Mo_refuse W S (0 : Int32) r17.2 (z_w (show y_in (0 : Int32) (0) (0) from ⟨by decide, by decide⟩) (by decide) (by decide)) hr17.1 (by omega)) (fun r43 hr43 => ?_)
    exact z_ok_s hr43
  · have z234444 : y_in r17.1 (1) (1) := z_w (z_ne1 c234442 hr17.2 (by decide)) (by decide) (by decide)
    refine z_ok_b (t_f_Mo_lowest W S (-1 : Int64) x3 r17.2 hx3 hr17.1 (by omega)) (fun r19 hr19 => ?_)
    refine z_ok_i (fun c234445 => ?_) (fun c234445 => ?_)
    · have z234446 : y_in x4 (0) (0) := z_w (z_eq1 c234445 (show y_in (0 : Int32) (0) (0) from ⟨by decide, by decide⟩)) (by decide) (by decide)
      exact t_k_Mo_divide_272 W S x3 x4 x8 x11 r19 (0 : Int32) r17.2 hx3 (z_w z234446 (by decide) (by decide)) hx8 hx11 (z_w (show y_in (0 : Int32) (0) (0) from ⟨by decide, by decide⟩) (by decide) (by decide)) hr17.1 hW
    · have z234447 : y_in x4 (1) (1) := z_w (z_ne1 c234445 hx4 (by decide)) (by decide) (by decide)
      exact t_k_Mo_divide_272 W S x3 x4 x8 x11 r19 (1 : Int32) r17.2 hx3 (z_w z234447 (by decide) (by decide)) hx8 hx11 (z_w (show y_in (1 : Int32) (1) (1) from ⟨by decide, by decide⟩) (by decide) (by decide)) hr17.1 hW

set_option maxHeartbeats 4000000 in
set_option maxRecDepth 100000 in
theorem t_k_Mo_divide_239 (W : Nat) (S : z_SS) (x3 : Int32) (x4 : Int32) (x8 : Int32) (x9 : Int64) (x11 : Int32) (q : z_Sg) (hx3 : y_in x3 (1) (8)) (hx4 : y_in x4 (0) (1)) (hx8 : y_in x8 (0) (1)) (hx11 : y_in x11 (0) (1)) (hq : iM W S q) (hW : W + 0 ≤ 16) : z_ok (k_Mo_divide_239 x3 x4 x8 x9 x11 q) (fun o : z_Sg => iM W S o) := by
  unfold k_Mo_divide_239
  exact t_k_Mo_divide_241 W S x3 x4 x8 x11 x9 q hx3 hx4 hx8 hx11 hq hW

set_option maxHeartbeats 4000000 in
set_option maxRecDepth 100000 in
theorem t_k_Mo_divide_220 (W : Nat) (S : z_SS) (x3 : Int32) (x4 : Int32) (x8 : Int32) (x9 : Int64) (x11 : Int32) (q : z_Sg) (hx3 : y_in x3 (1) (8)) (hx4 : y_in x4 (0) (1)) (hx8 : y_in x8 (0) (1)) (hx11 : y_in x11 (0) (1)) (hq : iM W S q) (hW : W + 0 ≤ 16) : z_ok (k_Mo_divide_220 x3 x4 x8 x9 x11 q) (fun o : z_Sg => iM W S o) := by
  unfold k_Mo_divide_220
  refine z_ok_i (fun c234448 => ?_) (fun c234448 => ?_)
  · have z234449 : y_in x4 (0) (0) := z_w (z_eq1 c234448 (show y_in (0 : Int32) (0) (0) from ⟨by decide, by decide⟩)) (by decide) (by decide)
    exact t_k_Mo_divide_239 W S x3 x4 x8 x9 x11 q hx3 (z_w z234449 (by decide) (by decide)) hx8 hx11 hq hW
  · have z234450 : y_in x4 (1) (1) := z_w (z_ne1 c234448 hx4 (by decide)) (by decide) (by decide)
    refine z_ok_i (fun c234451 => ?_) (fun c234451 => ?_)
    · exact t_k_Mo_divide_239 W S x3 x4 x8 x9 x11 q hx3 (z_w z234450 (by decide) (by decide)) hx8 hx11 hq hW
    · exact t_k_Mo_divide_241 W S x3 x4 x8 x11 (-x9) q hx3 (z_w z234450 (by decide) (by decide)) hx8 hx11 hq hW

set_option maxHeartbeats 4000000 in
set_option maxRecDepth 100000 in
theorem t_k_Mo_divide_209 (W : Nat) (S : z_SS) (x3 : Int32) (x4 : Int32) (x8 : Int32) (x9 : Int64) (t0 : Int32) (q : z_Sg) (hx3 : y_in x3 (1) (8)) (hx4 : y_in x4 (0) (1)) (hx8 : y_in x8 (0) (1)) (ht0 : y_in t0 (0) (1)) (hq : iM W S q) (hW : W + 0 ≤ 16) : z_ok (k_Mo_divide_209 x3 x4 x8 x9 t0 q) (fun o : z_Sg => iM W S o) := by
  unfold k_Mo_divide_209
  refine z_ok_i (fun c234452 => ?_) (fun c234452 => ?_)
  · have z234453 : y_in x8 (0) (0) := z_w (z_eq1 c234452 (show y_in (0 : Int32) (0) (0) from ⟨by decide, by decide⟩)) (by decide) (by decide)
    exact t_k_Mo_divide_220 W S x3 x4 x8 x9 t0 q hx3 hx4 (z_w z234453 (by decide) (by decide)) ht0 hq hW
  · have z234454 : y_in x8 (1) (1) := z_w (z_ne1 c234452 hx8 (by decide)) (by decide) (by decide)
    refine z_ok_b (t_f_Mo_turnSign W S q hq (by omega)) (fun r45 hr45 => ?_)
    exact t_k_Mo_divide_220 W S x3 x4 x8 x9 t0 r45 hx3 hx4 (z_w z234454 (by decide) (by decide)) ht0 hr45 hW

set_option maxHeartbeats 4000000 in
set_option maxRecDepth 100000 in
theorem t_k_Mo_divide_201 (W : Nat) (S : z_SS) (x3 : Int32) (x4 : Int32) (x8 : Int32) (x9 : Int64) (t0 : Int32) (t1 : Int32) (q : z_Sg) (hx3 : y_in x3 (1) (8)) (hx4 : y_in x4 (0) (1)) (hx8 : y_in x8 (0) (1)) (ht0 : y_in t0 (0) (1)) (ht1 : y_in t1 (0) (1)) (hq : iM W S q) (hW : W + 0 ≤ 16) : z_ok (k_Mo_divide_201 x3 x4 x8 x9 t0 t1 q) (fun o : z_Sg => iM W S o) := by
  unfold k_Mo_divide_201
  refine z_ok_i (fun c234455 => ?_) (fun c234455 => ?_)
  · exact t_k_Mo_divide_209 W S x3 x4 x8 x9 (0 : Int32) q hx3 hx4 hx8 (z_w (show y_in (0 : Int32) (0) (0) from ⟨by decide, by decide⟩) (by decide) (by decide)) hq hW
  · exact t_k_Mo_divide_209 W S x3 x4 x8 x9 (1 : Int32) q hx3 hx4 hx8 (z_w (show y_in (1 : Int32) (1) (1) from ⟨by decide, by decide⟩) (by decide) (by decide)) hq hW

set_option maxHeartbeats 4000000 in
set_option maxRecDepth 100000 in
theorem t_k_Mo_divide_200 (W : Nat) (S : z_SS) (x3 : Int32) (x4 : Int32) (x8 : Int32) (x9 : Int64) (t0 : Int32) (q : z_Sg) (hx3 : y_in x3 (1) (8)) (hx4 : y_in x4 (0) (1)) (hx8 : y_in x8 (0) (1)) (ht0 : y_in t0 (0) (1)) (hq : iM W S q) (hW : W + 0 ≤ 16) : z_ok (k_Mo_divide_200 x3 x4 x8 x9 t0 q) (fun o : z_Sg => iM W S o) := by
  unfold k_Mo_divide_200
  exact t_k_Mo_divide_201 W S x3 x4 x8 x9 t0 (0 : Int32) q hx3 hx4 hx8 ht0 (z_w (show y_in (0 : Int32) (0) (0) from ⟨by decide, by decide⟩) (by decide) (by decide)) hq hW

set_option maxHeartbeats 4000000 in
set_option maxRecDepth 100000 in
theorem t_k_Mo_divide_180 (W : Nat) (S : z_SS) (x3 : Int32) (x4 : Int32) (x8 : Int32) (t0 : Int64) (q : z_Sg) (hx3 : y_in x3 (1) (8)) (hx4 : y_in x4 (0) (1)) (hx8 : y_in x8 (0) (1)) (hq : iM W S q) (hW : W + 0 ≤ 16) : z_ok (k_Mo_divide_180 x3 x4 x8 t0 q) (fun o : z_Sg => iM W S o) := by
  unfold k_Mo_divide_180
  refine z_ok_i (fun c234456 => ?_) (fun c234456 => ?_)
  · have z234457 : y_in x4 (0) (0) := z_w (z_eq1 c234456 (show y_in (0 : Int32) (0) (0) from ⟨by decide, by decide⟩)) (by decide) (by decide)
    exact t_k_Mo_divide_200 W S x3 x4 x8 t0 x8 q hx3 (z_w z234457 (by decide) (by decide)) hx8 hx8 hq hW
  · have z234458 : y_in x4 (1) (1) := z_w (z_ne1 c234456 hx4 (by decide)) (by decide) (by decide)
    refine z_ok_i (fun c234459 => ?_) (fun c234459 => ?_)
    · exact t_k_Mo_divide_200 W S x3 x4 x8 t0 x8 q hx3 (z_w z234458 (by decide) (by decide)) hx8 hx8 hq hW
    · exact t_k_Mo_divide_201 W S x3 x4 x8 t0 x8 (1 : Int32) q hx3 (z_w z234458 (by decide) (by decide)) hx8 hx8 (z_w (show y_in (1 : Int32) (1) (1) from ⟨by decide, by decide⟩) (by decide) (by decide)) hq hW

set_option maxHeartbeats 4000000 in
set_option maxRecDepth 100000 in
theorem t_k_Mo_divide_164 (W : Nat) (S : z_SS) (x1 : Int64) (x3 : Int32) (x4 : Int32) (t0 : Int32) (q : z_Sg) (hx3 : y_in x3 (1) (8)) (hx4 : y_in x4 (0) (1)) (ht0 : y_in t0 (0) (1)) (hq : iM W S q) (hW : W + 0 ≤ 16) : z_ok (k_Mo_divide_164 x1 x3 x4 t0 q) (fun o : z_Sg => iM W S o) := by
  unfold k_Mo_divide_164
  refine z_ok_i (fun c234460 => ?_) (fun c234460 => ?_)
  · have z234461 : y_in x4 (0) (0) := z_w (z_eq1 c234460 (show y_in (0 : Int32) (0) (0) from ⟨by decide, by decide⟩)) (by decide) (by decide)
    exact t_k_Mo_divide_180 W S x3 x4 t0 x1 q hx3 (z_w z234461 (by decide) (by decide)) ht0 hq hW
  · have z234462 : y_in x4 (1) (1) := z_w (z_ne1 c234460 hx4 (by decide)) (by decide) (by decide)
    refine z_ok_b (t_f_Mo_extended W S x1 x3 q (z_w hx3 (by decide) (by decide)) hq (by omega)) (fun r47 hr47 => ?_)
    exact t_k_Mo_divide_180 W S x3 x4 t0 r47 q hx3 (z_w z234462 (by decide) (by decide)) ht0 hq hW

set_option maxHeartbeats 4000000 in
set_option maxRecDepth 100000 in
theorem t_k_Mo_divide_163 (W : Nat) (S : z_SS) (x1 : Int64) (x3 : Int32) (x4 : Int32) (q : z_Sg) (hx3 : y_in x3 (1) (8)) (hx4 : y_in x4 (0) (1)) (hq : iM W S q) (hW : W + 0 ≤ 16) : z_ok (k_Mo_divide_163 x1 x3 x4 q) (fun o : z_Sg => iM W S o) := by
  unfold k_Mo_divide_163
  exact t_k_Mo_divide_164 W S x1 x3 x4 (0 : Int32) q hx3 hx4 (z_w (show y_in (0 : Int32) (0) (0) from ⟨by decide, by decide⟩) (by decide) (by decide)) hq hW

set_option maxHeartbeats 4000000 in
set_option maxRecDepth 100000 in
theorem t_k_Mo_divide_145 (W : Nat) (S : z_SS) (x1 : Int64) (x3 : Int32) (x4 : Int32) (q : z_Sg) (hx3 : y_in x3 (1) (8)) (hx4 : y_in x4 (0) (1)) (hq : iM W S q) (hW : W + 0 ≤ 16) : z_ok (k_Mo_divide_145 x1 x3 x4 q) (fun o : z_Sg => iM W S o) := by
  unfold k_Mo_divide_145
  refine z_ok_i (fun c234463 => ?_) (fun c234463 => ?_)
  · have z234464 : y_in x4 (0) (0) := z_w (z_eq1 c234463 (show y_in (0 : Int32) (0) (0) from ⟨by decide, by decide⟩)) (by decide) (by decide)
    exact t_k_Mo_divide_163 W S x1 x3 x4 q hx3 (z_w z234464 (by decide) (by decide)) hq hW
  · have z234465 : y_in x4 (1) (1) := z_w (z_ne1 c234463 hx4 (by decide)) (by decide) (by decide)
    refine z_ok_i (fun c234466 => ?_) (fun c234466 => ?_)
    · exact t_k_Mo_divide_163 W S x1 x3 x4 q hx3 (z_w z234465 (by decide) (by decide)) hq hW
    · exact t_k_Mo_divide_164 W S x1 x3 x4 (1 : Int32) q hx3 (z_w z234465 (by decide) (by decide)) (z_w (show y_in (1 : Int32) (1) (1) from ⟨by decide, by decide⟩) (by decide) (by decide)) hq hW

set_option maxHeartbeats 4000000 in
set_option maxRecDepth 100000 in
theorem t_k_Mo_divide_142 (W : Nat) (S : z_SS) (x1 : Int64) (x3 : Int32) (x4 : Int32) (t1 : Int64) (q : z_Sg) (hx3 : y_in x3 (1) (7)) (hx4 : y_in x4 (1) (1)) (ht1 : y_il t1 (-1) (0)) (hq : iM W S q) (hW : W + 0 ≤ 16) : z_ok (k_Mo_divide_142 x1 x3 x4 t1 q) (fun o : z_Sg => iM W S o) := by
  unfold k_Mo_divide_142
  refine z_ok_n (fun q53 eq53 => ?_)
  have hq53 : iM W S q53 := by rw [eq53]; exact (iM_sL hq)
  exact t_k_Mo_divide_145 W S x1 x3 x4 q53 (z_w hx3 (by decide) (by decide)) (z_w hx4 (by decide) (by decide)) hq53 hW

set_option maxHeartbeats 4000000 in
set_option maxRecDepth 100000 in
theorem t_k_Mo_divide_97 (W : Nat) (S : z_SS) (x1 : Int64) (x3 : Int32) (x4 : Int32) (t1 : Int64) (q : z_Sg) (hx3 : y_in x3 (1) (8)) (hx4 : y_in x4 (0) (1)) (hq : iM W S q) (hW : W + 0 ≤ 16) : z_ok (k_Mo_divide_97 x1 x3 x4 t1 q) (fun o : z_Sg => iM W S o) := by
  unfold k_Mo_divide_97
  refine z_ok_n (fun q9 eq9 => ?_)
  have hq9 : iM W S q9 := by rw [eq9]; exact (iM_sL hq)
  refine z_ok_i (fun c234467 => ?_) (fun c234467 => ?_)
  · have z234468 : y_in x4 (0) (0) := z_w (z_eq1 c234467 (show y_in (0 : Int32) (0) (0) from ⟨by decide, by decide⟩)) (by decide) (by decide)
    exact t_k_Mo_divide_145 W S x1 x3 x4 q9 hx3 (z_w z234468 (by decide) (by decide)) hq9 hW
  · have z234469 : y_in x4 (1) (1) := z_w (z_ne1 c234467 hx4 (by decide)) (by decide) (by decide)
    refine z_ok_i (fun c234470 => ?_) (fun c234470 => ?_)
    · have z234471 : y_in x3 (8) (8) := z_w (z_le2 c234470 (show y_in (8 : Int32) (8) (8) from ⟨by decide, by decide⟩) hx3) (by decide) (by decide)
      exact t_k_Mo_divide_145 W S x1 x3 x4 q9 (z_w z234471 (by decide) (by decide)) (z_w z234469 (by decide) (by decide)) hq9 hW
    · have z234472 : y_in x3 (1) (7) := z_w (z_nle2 c234470 (show y_in (8 : Int32) (8) (8) from ⟨by decide, by decide⟩) hx3) (by decide) (by decide)
      refine z_ok_b (t_f_Mo_extended W S (z_gL q9 8) ((2 : Int32) * x3) q9 (z_w (z_w (a' := 2) (b' := 14) (z_mul (show y_in (2 : Int32) (2) (2) from ⟨by decide, by decide⟩) z234472 (by decide) (by decide) (by decide)) (by decide) (by decide)) (by decide) (by decide)) hq9 (by omega)) (fun r50 hr50 => ?_)
      refine z_ok_n (fun q51 eq51 => ?_)
      have hq51 : iM W S q51 := by rw [eq51]; exact (iM_sL hq9)
      refine z_ok_i (fun c234473 => ?_) (fun c234473 => ?_)
      · exact t_k_Mo_divide_142 W S x1 x3 x4 (0 : Int64) q51 z234472 z234469 (z_lw (show y_il (0 : Int64) (0) (0) from ⟨by decide, by decide⟩) (by decide) (by decide)) hq51 hW
      · exact t_k_Mo_divide_142 W S x1 x3 x4 (-1 : Int64) q51 z234472 z234469 (z_lw (show y_il (-1 : Int64) (-1) (-1) from ⟨by decide, by decide⟩) (by decide) (by decide)) hq51 hW

set_option maxHeartbeats 4000000 in
set_option maxRecDepth 100000 in
theorem t_k_Mo_divide_76 (W : Nat) (S : z_SS) (x1 : Int64) (x3 : Int32) (x4 : Int32) (x6 : Int64) (q : z_Sg) (hx3 : y_in x3 (1) (8)) (hx4 : y_in x4 (0) (1)) (hq : iM W S q) (hW : W + 0 ≤ 16) : z_ok (k_Mo_divide_76 x1 x3 x4 x6 q) (fun o : z_Sg => iM W S o) := by
  unfold k_Mo_divide_76
  exact t_k_Mo_divide_97 W S x1 x3 x4 x6 q hx3 hx4 hq hW

set_option maxHeartbeats 4000000 in
set_option maxRecDepth 100000 in
theorem t_k_Mo_divide_61 (W : Nat) (S : z_SS) (x1 : Int64) (x3 : Int32) (x4 : Int32) (x5 : Int32) (x6 : Int64) (t1 : Int64) (q : z_Sg) (hx3 : y_in x3 (1) (8)) (hx4 : y_in x4 (0) (1)) (hx5 : y_in x5 (8) (64)) (hq : iM W S q) (hW : W + 0 ≤ 16) : z_ok (k_Mo_divide_61 x1 x3 x4 x5 x6 t1 q) (fun o : z_Sg => iM W S o) := by
  unfold k_Mo_divide_61
  refine z_ok_n (fun q7 eq7 => ?_)
  have hq7 : iM W S q7 := by rw [eq7]; exact (iM_sL hq)
  refine z_ok_i (fun c234474 => ?_) (fun c234474 => ?_)
  · have z234475 : y_in x3 (1) (1) := z_w (z_eq1 c234474 (show y_in (1 : Int32) (1) (1) from ⟨by decide, by decide⟩)) (by decide) (by decide)
    exact t_k_Mo_divide_76 W S x1 x3 x4 x6 q7 (z_w z234475 (by decide) (by decide)) hx4 hq7 hW
  · have z234476 : y_in x3 (2) (8) := z_w (z_ne1 c234474 hx3 (by decide)) (by decide) (by decide)
    refine z_ok_i (fun c234477 => ?_) (fun c234477 => ?_)
    · have z234478 : y_in x3 (8) (8) := z_w (z_eq1 c234477 (show y_in (8 : Int32) (8) (8) from ⟨by decide, by decide⟩)) (by decide) (by decide)
      exact t_k_Mo_divide_76 W S x1 x3 x4 x6 q7 (z_w z234478 (by decide) (by decide)) hx4 hq7 hW
    · have z234479 : y_in x3 (2) (7) := z_w (z_ne2 c234477 z234476 (by decide)) (by decide) (by decide)
      refine z_ok_g (z_nbad (z_w (show y_in (2 : Int32) (2) (2) from ⟨by decide, by decide⟩) (by decide) (Int.le_refl _)) (by decide)) ?_
      refine z_ok_b (t_f_Mo_lowest W S (z_gM q7 0 (2 : Int32).toNatClampNeg) x3 q7 (z_w z234479 (by decide) (by decide)) hq7 (by omega)) (fun r56 hr56 => ?_)
      exact t_k_Mo_divide_97 W S x1 x3 x4 ((z_lshl r56 x5) ||| x6) q7 (z_w z234479 (by decide) (by decide)) hx4 hq7 hW

set_option maxHeartbeats 4000000 in
set_option maxRecDepth 100000 in
theorem t_k_Mo_divide_39 (W : Nat) (S : z_SS) (x1 : Int64) (x3 : Int32) (x4 : Int32) (x5 : Int32) (t1 : Int32) (t2 : Int32) (q : z_Sg) (hx3 : y_in x3 (1) (8)) (hx4 : y_in x4 (0) (1)) (hx5 : y_in x5 (8) (64)) (ht1 : y_in t1 (0) (0)) (ht2 : y_in t2 (2) (8)) (hq : iM W S q) (hW : W + 0 ≤ 16) : z_ok (k_Mo_divide_39 x1 x3 x4 x5 t1 t2 q) (fun o : z_Sg => iM W S o) := by
  unfold k_Mo_divide_39
  refine z_ok_b (t_f_Mo_get8 W S t1 t2 q (z_w ht1 (by decide) (by decide)) (z_w ht2 (by decide) (by decide)) hq (by omega)) (fun r5 hr5 => ?_)
  refine z_ok_i (fun c234480 => ?_) (fun c234480 => ?_)
  · have z234481 : y_in x3 (8) (8) := z_w (z_eq1 c234480 (show y_in (8 : Int32) (8) (8) from ⟨by decide, by decide⟩)) (by decide) (by decide)
    refine z_ok_g (z_nbad (z_w (show y_in (2 : Int32) (2) (2) from ⟨by decide, by decide⟩) (by decide) (Int.le_refl _)) (by decide)) ?_
    exact t_k_Mo_divide_61 W S x1 x3 x4 x5 r5 (z_gM q 0 (2 : Int32).toNatClampNeg) q (z_w z234481 (by decide) (by decide)) hx4 hx5 hq hW
  · have z234482 : y_in x3 (1) (7) := z_w (z_ne2 c234480 hx3 (by decide)) (by decide) (by decide)
    exact t_k_Mo_divide_61 W S x1 x3 x4 x5 r5 (0 : Int64) q (z_w z234482 (by decide) (by decide)) hx4 hx5 hq hW

set_option maxHeartbeats 4000000 in
set_option maxRecDepth 100000 in
theorem t_f_Mo_divide (W : Nat) (S : z_SS) (x1 : Int64) (x3 : Int32) (x4 : Int32) (q : z_Sg) (hx3 : y_in x3 (1) (8)) (hx4 : y_in x4 (0) (1)) (hq : iM W S q) (hW : W + 0 ≤ 16) : z_ok (f_Mo_divide x1 x3 x4 q) (fun o : z_Sg => iM W S o) := by
  unfold f_Mo_divide
  refine z_ok_i (fun c234483 => ?_) (fun c234483 => ?_)
  · have z234484 : y_in (z_gI q 4) (-1) (-1) := z_w (z_eq1 c234483 (show y_in (-1 : Int32) (-1) (-1) from ⟨by decide, by decide⟩)) (by decide) (by decide)
    refine z_ok_i (fun c234485 => ?_) (fun c234485 => ?_)
    · refine z_ok_b (t_f_Mo_refuse W S (0 : Int32) q (z_w (show y_in (0 : Int32) (0) (0) from ⟨by decide, by decide⟩) (by decide) (by decide)) hq (by omega)) (fun r58 hr58 => ?_)
      exact z_ok_s hr58
    · refine z_ok_n (fun n3 en3 => ?_)
      have hn3 : y_in n3 (8) (64) := z_e en3 (z_w (a' := 8) (b' := 64) (z_mul (show y_in (8 : Int32) (8) (8) from ⟨by decide, by decide⟩) hx3 (by decide) (by decide) (by decide)) (by decide) (by decide))
      refine z_ok_i (fun c234486 => ?_) (fun c234486 => ?_)
      · have z234487 : y_in x3 (1) (1) := z_w (z_eq1 c234486 (show y_in (1 : Int32) (1) (1) from ⟨by decide, by decide⟩)) (by decide) (by decide)
        exact t_k_Mo_divide_39 W S x1 x3 x4 n3 (0 : Int32) (2 : Int32) q (z_w z234487 (by decide) (by decide)) hx4 hn3 (show y_in (0 : Int32) (0) (0) from ⟨by decide, by decide⟩) (z_w (show y_in (2 : Int32) (2) (2) from ⟨by decide, by decide⟩) (by decide) (by decide)) hq hW
      · have z234488 : y_in x3 (2) (8) := z_w (z_ne1 c234486 hx3 (by decide)) (by decide) (by decide)
        exact t_k_Mo_divide_39 W S x1 x3 x4 n3 (0 : Int32) x3 q (z_w z234488 (by decide) (by decide)) hx4 hn3 (show y_in (0 : Int32) (0) (0) from ⟨by decide, by decide⟩) z234488 hq hW
  · have z234489 : y_in (z_gI q 4) (0) (14) := z_w (z_ne1 c234483 (iM_f4 hq) (by decide)) (by decide) (by decide)
    exact z_ok_s hq

set_option maxHeartbeats 4000000 in
set_option maxRecDepth 100000 in
theorem t_k_Mo_multiply_108 (W : Nat) (S : z_SS) (ih19 : Int64 × Int64 × Int64 × Int32 × z_Sg → Option z_Sg) (x3 : Int64) (x5 : Int64) (x7 : Int64) (x9 : Int32) (q : z_Sg) (hi19 : ∀ (x3' : Int64) (x5' : Int64) (x7' : Int64) (x9' : Int32) (q' : z_Sg), y_in x9' (0) (64) → iM W S q' → (64 - x9'.toInt).toNat < (64 - x9.toInt).toNat → z_ok (ih19 (x3', x5', x7', x9', q')) (fun o : z_Sg => iM W S o)) (hx9 : y_in x9 (0) (63)) (hq : iM W S q) (hW : W + 0 ≤ 16) : z_ok (k_Mo_multiply_108 ih19 x3 x5 x7 x9 q) (fun o : z_Sg => iM W S o) := by
  unfold k_Mo_multiply_108
  refine z_ok_n (fun n5 en5 => ?_)
  refine z_ok_n (fun n6 en6 => ?_)
  refine z_ok_n (fun n7 en7 => ?_)
  have hn7 : y_in n7 (1) (64) := z_e en7 (z_w (a' := 1) (b' := 64) (z_add hx9 (show y_in (1 : Int32) (1) (1) from ⟨by decide, by decide⟩) (by decide) (by decide)) (by decide) (by decide))
  exact hi19 x3 n5 n6 n7 q (z_w hn7 (by decide) (by decide)) hq (z_mu (64) 1 hx9 en7 (by decide) (by decide) (by decide) (by decide))

set_option maxHeartbeats 4000000 in
set_option maxRecDepth 100000 in
theorem t_k_Mo_multiply_97 (W : Nat) (S : z_SS) (ih19 : Int64 × Int64 × Int64 × Int32 × z_Sg → Option z_Sg) (x3 : Int64) (x5 : Int64) (x7 : Int64) (x9 : Int32) (x10 : Int64) (t1 : Int64) (t2 : Int64) (t3 : Int64) (q : z_Sg) (hi19 : ∀ (x3' : Int64) (x5' : Int64) (x7' : Int64) (x9' : Int32) (q' : z_Sg), y_in x9' (0) (64) → iM W S q' → (64 - x9'.toInt).toNat < (64 - x9.toInt).toNat → z_ok (ih19 (x3', x5', x7', x9', q')) (fun o : z_Sg => iM W S o)) (hx9 : y_in x9 (0) (63)) (ht3 : y_il t3 (0) (1)) (hq : iM W S q) (hW : W + 0 ≤ 16) : z_ok (k_Mo_multiply_97 ih19 x3 x5 x7 x9 x10 t1 t2 t3 q) (fun o : z_Sg => iM W S o) := by
  unfold k_Mo_multiply_97
  refine z_ok_n (fun q11 eq11 => ?_)
  have hq11 : iM W S q11 := by rw [eq11]; exact (iM_sL hq)
  refine z_ok_n (fun q12 eq12 => ?_)
  have hq12 : iM W S q12 := by rw [eq12]; exact (iM_sL hq11)
  exact t_k_Mo_multiply_108 W S ih19 x3 x5 x7 x9 q12 hi19 hx9 hq12 hW

set_option maxHeartbeats 4000000 in
set_option maxRecDepth 100000 in
theorem t_k_Mo_multiply_78 (W : Nat) (S : z_SS) (ih19 : Int64 × Int64 × Int64 × Int32 × z_Sg → Option z_Sg) (x3 : Int64) (x5 : Int64) (x7 : Int64) (x9 : Int32) (x10 : Int64) (t0 : Int32) (q : z_Sg) (hi19 : ∀ (x3' : Int64) (x5' : Int64) (x7' : Int64) (x9' : Int32) (q' : z_Sg), y_in x9' (0) (64) → iM W S q' → (64 - x9'.toInt).toNat < (64 - x9.toInt).toNat → z_ok (ih19 (x3', x5', x7', x9', q')) (fun o : z_Sg => iM W S o)) (hx9 : y_in x9 (0) (63)) (ht0 : y_in t0 (0) (1)) (hq : iM W S q) (hW : W + 0 ≤ 16) : z_ok (k_Mo_multiply_78 ih19 x3 x5 x7 x9 x10 t0 q) (fun o : z_Sg => iM W S o) := by
  unfold k_Mo_multiply_78
  refine z_ok_i (fun c234490 => ?_) (fun c234490 => ?_)
  · have z234491 : y_in t0 (0) (0) := z_w (z_eq1 c234490 (show y_in (0 : Int32) (0) (0) from ⟨by decide, by decide⟩)) (by decide) (by decide)
    exact t_k_Mo_multiply_97 W S ih19 x3 x5 x7 x9 x10 (z_gL q 9) x5 (0 : Int64) q hi19 hx9 (z_lw (show y_il (0 : Int64) (0) (0) from ⟨by decide, by decide⟩) (by decide) (by decide)) hq hW
  · have z234492 : y_in t0 (1) (1) := z_w (z_ne1 c234490 ht0 (by decide)) (by decide) (by decide)
    exact t_k_Mo_multiply_97 W S ih19 x3 x5 x7 x9 x10 (z_gL q 9) x5 (1 : Int64) q hi19 hx9 (z_lw (show y_il (1 : Int64) (1) (1) from ⟨by decide, by decide⟩) (by decide) (by decide)) hq hW

set_option maxHeartbeats 4000000 in
set_option maxRecDepth 100000 in
theorem t_kb_Mo_multiply_19 (W : Nat) (S : z_SS) (ih19 : Int64 × Int64 × Int64 × Int32 × z_Sg → Option z_Sg) (x3 : Int64) (x5 : Int64) (x7 : Int64) (x9 : Int32) (q : z_Sg) (hi19 : ∀ (x3' : Int64) (x5' : Int64) (x7' : Int64) (x9' : Int32) (q' : z_Sg), y_in x9' (0) (64) → iM W S q' → (64 - x9'.toInt).toNat < (64 - x9.toInt).toNat → z_ok (ih19 (x3', x5', x7', x9', q')) (fun o : z_Sg => iM W S o)) (hx9 : y_in x9 (0) (64)) (hq : iM W S q) (hW : W + 0 ≤ 16) : z_ok (kb_Mo_multiply_19 ih19 x3 x5 x7 x9 q) (fun o : z_Sg => iM W S o) := by
  unfold kb_Mo_multiply_19
  refine z_ok_i (fun c234493 => ?_) (fun c234493 => ?_)
  · have z234494 : y_in x9 (64) (64) := z_w (z_le2 c234493 (show y_in (64 : Int32) (64) (64) from ⟨by decide, by decide⟩) hx9) (by decide) (by decide)
    exact z_ok_s hq
  · have z234495 : y_in x9 (0) (63) := z_w (z_nle2 c234493 (show y_in (64 : Int32) (64) (64) from ⟨by decide, by decide⟩) hx9) (by decide) (by decide)
    refine z_ok_i (fun c234496 => ?_) (fun c234496 => ?_)
    · refine z_ok_n (fun n8 en8 => ?_)
      refine z_ok_i (fun c234497 => ?_) (fun c234497 => ?_)
      · exact t_k_Mo_multiply_78 W S ih19 x3 x5 x7 x9 n8 (0 : Int32) q hi19 z234495 (z_w (show y_in (0 : Int32) (0) (0) from ⟨by decide, by decide⟩) (by decide) (by decide)) hq hW
      · exact t_k_Mo_multiply_78 W S ih19 x3 x5 x7 x9 n8 (1 : Int32) q hi19 z234495 (z_w (show y_in (1 : Int32) (1) (1) from ⟨by decide, by decide⟩) (by decide) (by decide)) hq hW
    · exact t_k_Mo_multiply_108 W S ih19 x3 x5 x7 x9 q hi19 z234495 hq hW

set_option maxHeartbeats 4000000 in
set_option maxRecDepth 100000 in
theorem t_k_Mo_multiply_19 (W : Nat) (S : z_SS) (x3 : Int64) (x5 : Int64) (x7 : Int64) (x9 : Int32) (q : z_Sg) (hx5 : y_il x5 (0) (0)) (hx9 : y_in x9 (0) (0)) (hq : iM W S q) (hW : W + 0 ≤ 16) : z_ok (k_Mo_multiply_19 x3 x5 x7 x9 q) (fun o : z_Sg => iM W S o) := by
  unfold k_Mo_multiply_19
  refine z_ok_l (fun a : Int64 × Int64 × Int64 × Int32 × z_Sg => y_in a.2.2.2.1 (0) (64) ∧ iM W S a.2.2.2.2) (fun a => (64 - a.2.2.2.1.toInt).toNat) ?_ (x3, x5, x7, x9, q) ⟨(z_w hx9 (by decide) (by decide)), hq⟩ (by show ((64 - x9.toInt).toNat) < 2000; have z1 := hx9.1; have z2 := hx9.2; omega)
  intro ih a ha hih
  exact t_kb_Mo_multiply_19 W S ih a.1 a.2.1 a.2.2.1 a.2.2.2.1 a.2.2.2.2 (fun x3' x5' x7' x9' q' hx9' hq' hm => hih (x3', x5', x7', x9', q') ⟨hx9', hq'⟩ hm) ha.1 ha.2 hW

set_option maxHeartbeats 4000000 in
set_option maxRecDepth 100000 in
theorem t_f_Mo_multiply (W : Nat) (S : z_SS) (x1 : Int64) (x3 : Int64) (q : z_Sg) (hq : iM W S q) (hW : W + 0 ≤ 16) : z_ok (f_Mo_multiply x1 x3 q) (fun o : z_Sg => iM W S o) := by
  unfold f_Mo_multiply
  refine z_ok_n (fun q1 eq1 => ?_)
  have hq1 : iM W S q1 := by rw [eq1]; exact (iM_sL hq)
  refine z_ok_n (fun q2 eq2 => ?_)
  have hq2 : iM W S q2 := by rw [eq2]; exact (iM_sL hq1)
  exact t_k_Mo_multiply_19 W S x3 (0 : Int64) x1 (0 : Int32) q2 (show y_il (0 : Int64) (0) (0) from ⟨by decide, by decide⟩) (show y_in (0 : Int32) (0) (0) from ⟨by decide, by decide⟩) hq2 hW

set_option maxHeartbeats 4000000 in
set_option maxRecDepth 100000 in
theorem t_f_Mo_muchFlags (W : Nat) (S : z_SS) (x1 : Int32) (q : z_Sg) (hx1 : y_in x1 (0) (1)) (hq : iM W S q) (hW : W + 0 ≤ 16) : z_ok (f_Mo_muchFlags x1 q) (fun o : z_Sg => iM W S o) := by
  unfold f_Mo_muchFlags
  refine z_ok_g (z_nbad (show y_in (0 : Int32) (0) (0) from ⟨by decide, by decide⟩) (by decide)) ?_
  refine z_ok_n (fun q2 eq2 => ?_)
  have hq2 : iM W S q2 := by rw [eq2]; exact (iM_sN1 hq)
  refine z_ok_g (z_nbad (z_w (show y_in (6 : Int32) (6) (6) from ⟨by decide, by decide⟩) (by decide) (Int.le_refl _)) (by decide)) ?_
  refine z_ok_n (fun q4 eq4 => ?_)
  have hq4 : iM W S q4 := by rw [eq4]; exact (iM_sN1 hq2)
  refine z_ok_b (t_f_Mo_leave W S (4 : Int32) q4 (z_w (show y_in (4 : Int32) (4) (4) from ⟨by decide, by decide⟩) (by decide) (by decide)) hq4 (by omega)) (fun r5 hr5 => ?_)
  refine z_ok_b (t_f_Mo_leave W S (3 : Int32) r5 (z_w (show y_in (3 : Int32) (3) (3) from ⟨by decide, by decide⟩) (by decide) (by decide)) hr5 (by omega)) (fun r6 hr6 => ?_)
  refine z_ok_b (t_f_Mo_leave W S (2 : Int32) r6 (z_w (show y_in (2 : Int32) (2) (2) from ⟨by decide, by decide⟩) (by decide) (by decide)) hr6 (by omega)) (fun r7 hr7 => ?_)
  refine z_ok_b (t_f_Mo_leave W S (1 : Int32) r7 (z_w (show y_in (1 : Int32) (1) (1) from ⟨by decide, by decide⟩) (by decide) (by decide)) hr7 (by omega)) (fun r8 hr8 => ?_)
  exact z_ok_s hr8

set_option maxHeartbeats 4000000 in
set_option maxRecDepth 100000 in
theorem t_k_Mo_multiplySigned_57 (W : Nat) (S : z_SS) (q : z_Sg) (hq : iM W S q) (hW : W + 0 ≤ 16) : z_ok (k_Mo_multiplySigned_57 q) (fun o : z_Sg => iM W S o) := by
  unfold k_Mo_multiplySigned_57
  exact z_ok_s hq

set_option maxHeartbeats 4000000 in
set_option maxRecDepth 100000 in
theorem t_k_Mo_multiplySigned_50 (W : Nat) (S : z_SS) (t0 : Int32) (t1 : Int32) (q : z_Sg) (ht0 : y_in t0 (0) (1)) (ht1 : y_in t1 (0) (1)) (hq : iM W S q) (hW : W + 0 ≤ 16) : z_ok (k_Mo_multiplySigned_50 t0 t1 q) (fun o : z_Sg => iM W S o) := by
  unfold k_Mo_multiplySigned_50
  refine z_ok_i (fun c234498 => ?_) (fun c234498 => ?_)
  · exact t_k_Mo_multiplySigned_57 W S q hq hW
  · refine z_ok_b (t_f_Mo_turnSign W S q hq (by omega)) (fun r7 hr7 => ?_)
    exact t_k_Mo_multiplySigned_57 W S r7 hr7 hW

set_option maxHeartbeats 4000000 in
set_option maxRecDepth 100000 in
theorem t_k_Mo_multiplySigned_39 (W : Nat) (S : z_SS) (x3 : Int64) (t0 : Int32) (q : z_Sg) (ht0 : y_in t0 (0) (1)) (hq : iM W S q) (hW : W + 0 ≤ 16) : z_ok (k_Mo_multiplySigned_39 x3 t0 q) (fun o : z_Sg => iM W S o) := by
  unfold k_Mo_multiplySigned_39
  refine z_ok_i (fun c234499 => ?_) (fun c234499 => ?_)
  · exact t_k_Mo_multiplySigned_50 W S t0 (0 : Int32) q ht0 (z_w (show y_in (0 : Int32) (0) (0) from ⟨by decide, by decide⟩) (by decide) (by decide)) hq hW
  · exact t_k_Mo_multiplySigned_50 W S t0 (1 : Int32) q ht0 (z_w (show y_in (1 : Int32) (1) (1) from ⟨by decide, by decide⟩) (by decide) (by decide)) hq hW

set_option maxHeartbeats 4000000 in
set_option maxRecDepth 100000 in
theorem t_k_Mo_multiplySigned_25 (W : Nat) (S : z_SS) (x1 : Int64) (x3 : Int64) (t1 : Int64) (t2 : Int64) (q : z_Sg) (hq : iM W S q) (hW : W + 0 ≤ 16) : z_ok (k_Mo_multiplySigned_25 x1 x3 t1 t2 q) (fun o : z_Sg => iM W S o) := by
  unfold k_Mo_multiplySigned_25
  refine z_ok_b (t_f_Mo_multiply W S t1 t2 q hq (by omega)) (fun r3 hr3 => ?_)
  refine z_ok_i (fun c234500 => ?_) (fun c234500 => ?_)
  · exact t_k_Mo_multiplySigned_39 W S x3 (0 : Int32) r3 (z_w (show y_in (0 : Int32) (0) (0) from ⟨by decide, by decide⟩) (by decide) (by decide)) hr3 hW
  · exact t_k_Mo_multiplySigned_39 W S x3 (1 : Int32) r3 (z_w (show y_in (1 : Int32) (1) (1) from ⟨by decide, by decide⟩) (by decide) (by decide)) hr3 hW

set_option maxHeartbeats 4000000 in
set_option maxRecDepth 100000 in
theorem t_k_Mo_multiplySigned_13 (W : Nat) (S : z_SS) (x1 : Int64) (x3 : Int64) (t1 : Int64) (q : z_Sg) (hq : iM W S q) (hW : W + 0 ≤ 16) : z_ok (k_Mo_multiplySigned_13 x1 x3 t1 q) (fun o : z_Sg => iM W S o) := by
  unfold k_Mo_multiplySigned_13
  refine z_ok_i (fun c234501 => ?_) (fun c234501 => ?_)
  · exact t_k_Mo_multiplySigned_25 W S x1 x3 t1 x3 q hq hW
  · exact t_k_Mo_multiplySigned_25 W S x1 x3 t1 (-x3) q hq hW

set_option maxHeartbeats 4000000 in
set_option maxRecDepth 100000 in
theorem t_f_Mo_multiplySigned (W : Nat) (S : z_SS) (x1 : Int64) (x3 : Int64) (q : z_Sg) (hq : iM W S q) (hW : W + 0 ≤ 16) : z_ok (f_Mo_multiplySigned x1 x3 q) (fun o : z_Sg => iM W S o) := by
  unfold f_Mo_multiplySigned
  refine z_ok_i (fun c234502 => ?_) (fun c234502 => ?_)
  · exact t_k_Mo_multiplySigned_13 W S x1 x3 x1 q hq hW
  · exact t_k_Mo_multiplySigned_13 W S x1 x3 (-x1) q hq hW

set_option maxHeartbeats 4000000 in
set_option maxRecDepth 100000 in
theorem t_k_Mo_multiplyOperand_158 (W : Nat) (S : z_SS) (t1 : Int32) (q : z_Sg) (ht1 : y_in t1 (0) (1)) (hq : iM W S q) (hW : W + 0 ≤ 16) : z_ok (k_Mo_multiplyOperand_158 t1 q) (fun o : z_Sg => iM W S o) := by
  unfold k_Mo_multiplyOperand_158
  refine z_ok_b (t_f_Mo_muchFlags W S t1 q ht1 hq (by omega)) (fun r12 hr12 => ?_)
  exact z_ok_s hr12

set_option maxHeartbeats 4000000 in
set_option maxRecDepth 100000 in
theorem t_k_Mo_multiplyOperand_149 (W : Nat) (S : z_SS) (t1 : Int64) (t2 : Int64) (q : z_Sg) (hq : iM W S q) (hW : W + 0 ≤ 16) : z_ok (k_Mo_multiplyOperand_149 t1 t2 q) (fun o : z_Sg => iM W S o) := by
  unfold k_Mo_multiplyOperand_149
  refine z_ok_i (fun c234503 => ?_) (fun c234503 => ?_)
  · exact t_k_Mo_multiplyOperand_158 W S (0 : Int32) q (z_w (show y_in (0 : Int32) (0) (0) from ⟨by decide, by decide⟩) (by decide) (by decide)) hq hW
  · exact t_k_Mo_multiplyOperand_158 W S (1 : Int32) q (z_w (show y_in (1 : Int32) (1) (1) from ⟨by decide, by decide⟩) (by decide) (by decide)) hq hW

set_option maxHeartbeats 4000000 in
set_option maxRecDepth 100000 in
theorem t_k_Mo_multiplyOperand_148 (W : Nat) (S : z_SS) (t1 : Int64) (q : z_Sg) (hq : iM W S q) (hW : W + 0 ≤ 16) : z_ok (k_Mo_multiplyOperand_148 t1 q) (fun o : z_Sg => iM W S o) := by
  unfold k_Mo_multiplyOperand_148
  exact t_k_Mo_multiplyOperand_149 W S t1 (0 : Int64) q hq hW

set_option maxHeartbeats 4000000 in
set_option maxRecDepth 100000 in
theorem t_k_Mo_multiplyOperand_121 (W : Nat) (S : z_SS) (x3 : Int32) (x4 : Int32) (x7 : Int64) (x9 : Int64) (q : z_Sg) (hx3 : y_in x3 (1) (8)) (hx4 : y_in x4 (0) (1)) (hq : iM W S q) (hW : W + 0 ≤ 16) : z_ok (k_Mo_multiplyOperand_121 x3 x4 x7 x9 q) (fun o : z_Sg => iM W S o) := by
  unfold k_Mo_multiplyOperand_121
  refine z_ok_i (fun c234504 => ?_) (fun c234504 => ?_)
  · have z234505 : y_in x4 (0) (0) := z_w (z_eq1 c234504 (show y_in (0 : Int32) (0) (0) from ⟨by decide, by decide⟩)) (by decide) (by decide)
    exact t_k_Mo_multiplyOperand_148 W S x9 q hq hW
  · have z234506 : y_in x4 (1) (1) := z_w (z_ne1 c234504 hx4 (by decide)) (by decide) (by decide)
    refine z_ok_b (t_f_Mo_top W S x7 x3 q hx3 hq (by omega)) (fun r13 hr13 => ?_)
    refine z_ok_i (fun c234507 => ?_) (fun c234507 => ?_)
    · have z234508 : y_in r13 (0) (0) := z_w (z_eq1 c234507 (show y_in (0 : Int32) (0) (0) from ⟨by decide, by decide⟩)) (by decide) (by decide)
      exact t_k_Mo_multiplyOperand_148 W S x9 q hq hW
    · have z234509 : y_in r13 (1) (1) := z_w (z_ne1 c234507 hr13 (by decide)) (by decide) (by decide)
      refine z_ok_b (t_f_Mo_lowest W S (-1 : Int64) x3 q hx3 hq (by omega)) (fun r15 hr15 => ?_)
      exact t_k_Mo_multiplyOperand_149 W S x9 r15 q hq hW

set_option maxHeartbeats 4000000 in
set_option maxRecDepth 100000 in
theorem t_k_Mo_multiplyOperand_108 (W : Nat) (S : z_SS) (x3 : Int32) (x4 : Int32) (x7 : Int64) (x9 : Int64) (q : z_Sg) (hx3 : y_in x3 (1) (8)) (hx4 : y_in x4 (0) (1)) (hq : iM W S q) (hW : W + 0 ≤ 16) : z_ok (k_Mo_multiplyOperand_108 x3 x4 x7 x9 q) (fun o : z_Sg => iM W S o) := by
  unfold k_Mo_multiplyOperand_108
  refine z_ok_i (fun c234510 => ?_) (fun c234510 => ?_)
  · have z234511 : y_in x3 (1) (1) := z_w (z_le1 c234510 hx3 (show y_in (1 : Int32) (1) (1) from ⟨by decide, by decide⟩)) (by decide) (by decide)
    exact t_k_Mo_multiplyOperand_121 W S x3 x4 x7 x9 q (z_w z234511 (by decide) (by decide)) hx4 hq hW
  · have z234512 : y_in x3 (2) (8) := z_w (z_nle1 c234510 hx3 (show y_in (1 : Int32) (1) (1) from ⟨by decide, by decide⟩)) (by decide) (by decide)
    refine z_ok_b (t_f_Mo_put8 W S (2 : Int32) x3 x9 q (z_w (show y_in (2 : Int32) (2) (2) from ⟨by decide, by decide⟩) (by decide) (by decide)) (z_w z234512 (by decide) (by decide)) hq (by omega)) (fun r16 hr16 => ?_)
    exact t_k_Mo_multiplyOperand_121 W S x3 x4 x7 x9 r16 (z_w z234512 (by decide) (by decide)) hx4 hr16 hW

set_option maxHeartbeats 4000000 in
set_option maxRecDepth 100000 in
theorem t_k_Mo_multiplyOperand_95 (W : Nat) (S : z_SS) (x3 : Int32) (x4 : Int32) (x7 : Int64) (x9 : Int64) (q : z_Sg) (hx3 : y_in x3 (1) (8)) (hx4 : y_in x4 (0) (1)) (hq : iM W S q) (hW : W + 0 ≤ 16) : z_ok (k_Mo_multiplyOperand_95 x3 x4 x7 x9 q) (fun o : z_Sg => iM W S o) := by
  unfold k_Mo_multiplyOperand_95
  refine z_ok_i (fun c234513 => ?_) (fun c234513 => ?_)
  · have z234514 : y_in x3 (1) (1) := z_w (z_le1 c234513 hx3 (show y_in (1 : Int32) (1) (1) from ⟨by decide, by decide⟩)) (by decide) (by decide)
    exact t_k_Mo_multiplyOperand_108 W S x3 x4 x7 x9 q (z_w z234514 (by decide) (by decide)) hx4 hq hW
  · have z234515 : y_in x3 (2) (8) := z_w (z_nle1 c234513 hx3 (show y_in (1 : Int32) (1) (1) from ⟨by decide, by decide⟩)) (by decide) (by decide)
    refine z_ok_b (t_f_Mo_put8 W S (0 : Int32) x3 x7 q (z_w (show y_in (0 : Int32) (0) (0) from ⟨by decide, by decide⟩) (by decide) (by decide)) (z_w z234515 (by decide) (by decide)) hq (by omega)) (fun r17 hr17 => ?_)
    exact t_k_Mo_multiplyOperand_108 W S x3 x4 x7 x9 r17 (z_w z234515 (by decide) (by decide)) hx4 hr17 hW

set_option maxHeartbeats 4000000 in
set_option maxRecDepth 100000 in
theorem t_k_Mo_multiplyOperand_74 (W : Nat) (S : z_SS) (x3 : Int32) (x4 : Int32) (x7 : Int64) (t0 : Int64) (q : z_Sg) (hx3 : y_in x3 (1) (8)) (hx4 : y_in x4 (0) (1)) (hq : iM W S q) (hW : W + 0 ≤ 16) : z_ok (k_Mo_multiplyOperand_74 x3 x4 x7 t0 q) (fun o : z_Sg => iM W S o) := by
  unfold k_Mo_multiplyOperand_74
  refine z_ok_i (fun c234516 => ?_) (fun c234516 => ?_)
  · have z234517 : y_in x3 (1) (1) := z_w (z_eq1 c234516 (show y_in (1 : Int32) (1) (1) from ⟨by decide, by decide⟩)) (by decide) (by decide)
    refine z_ok_b (t_f_Mo_put8 W S (0 : Int32) (2 : Int32) ((z_lshl t0 (8 : Int32)) ||| x7) q (z_w (show y_in (0 : Int32) (0) (0) from ⟨by decide, by decide⟩) (by decide) (by decide)) (z_w (show y_in (2 : Int32) (2) (2) from ⟨by decide, by decide⟩) (by decide) (by decide)) hq (by omega)) (fun r18 hr18 => ?_)
    exact t_k_Mo_multiplyOperand_95 W S x3 x4 x7 t0 r18 (z_w z234517 (by decide) (by decide)) hx4 hr18 hW
  · have z234518 : y_in x3 (2) (8) := z_w (z_ne1 c234516 hx3 (by decide)) (by decide) (by decide)
    exact t_k_Mo_multiplyOperand_95 W S x3 x4 x7 t0 q (z_w z234518 (by decide) (by decide)) hx4 hq hW

set_option maxHeartbeats 4000000 in
set_option maxRecDepth 100000 in
theorem t_k_Mo_multiplyOperand_38 (W : Nat) (S : z_SS) (x3 : Int32) (x4 : Int32) (q : z_Sg) (hx3 : y_in x3 (1) (8)) (hx4 : y_in x4 (0) (1)) (hq : iM W S q) (hW : W + 0 ≤ 16) : z_ok (k_Mo_multiplyOperand_38 x3 x4 q) (fun o : z_Sg => iM W S o) := by
  unfold k_Mo_multiplyOperand_38
  refine z_ok_b (t_f_Mo_lowest W S (z_gL q 8) x3 q hx3 hq (by omega)) (fun r4 hr4 => ?_)
  refine z_ok_i (fun c234519 => ?_) (fun c234519 => ?_)
  · have z234520 : y_in x3 (8) (8) := z_w (z_eq1 c234519 (show y_in (8 : Int32) (8) (8) from ⟨by decide, by decide⟩)) (by decide) (by decide)
    exact t_k_Mo_multiplyOperand_74 W S x3 x4 r4 (z_gL q 9) q (z_w z234520 (by decide) (by decide)) hx4 hq hW
  · have z234521 : y_in x3 (1) (7) := z_w (z_ne2 c234519 hx3 (by decide)) (by decide) (by decide)
    refine z_ok_b (t_f_Mo_lowest W S (z_lushr (z_gL q 8) ((8 : Int32) * x3)) x3 q (z_w z234521 (by decide) (by decide)) hq (by omega)) (fun r6 hr6 => ?_)
    exact t_k_Mo_multiplyOperand_74 W S x3 x4 r4 r6 q (z_w z234521 (by decide) (by decide)) hx4 hq hW

set_option maxHeartbeats 4000000 in
set_option maxRecDepth 100000 in
theorem t_f_Mo_multiplyOperand (W : Nat) (S : z_SS) (x1 : Int64) (x3 : Int32) (x4 : Int32) (q : z_Sg) (hx3 : y_in x3 (1) (8)) (hx4 : y_in x4 (0) (1)) (hq : iM W S q) (hW : W + 0 ≤ 16) : z_ok (f_Mo_multiplyOperand x1 x3 x4 q) (fun o : z_Sg => iM W S o) := by
  unfold f_Mo_multiplyOperand
  refine z_ok_b (t_f_Mo_get8 W S (0 : Int32) x3 q (z_w (show y_in (0 : Int32) (0) (0) from ⟨by decide, by decide⟩) (by decide) (by decide)) hx3 hq (by omega)) (fun r1 hr1 => ?_)
  refine z_ok_i (fun c234522 => ?_) (fun c234522 => ?_)
  · have z234523 : y_in x4 (0) (0) := z_w (z_eq1 c234522 (show y_in (0 : Int32) (0) (0) from ⟨by decide, by decide⟩)) (by decide) (by decide)
    refine z_ok_b (t_f_Mo_multiply W S r1 x1 q hq (by omega)) (fun r3 hr3 => ?_)
    exact t_k_Mo_multiplyOperand_38 W S x3 x4 r3 hx3 (z_w z234523 (by decide) (by decide)) hr3 hW
  · have z234524 : y_in x4 (1) (1) := z_w (z_ne1 c234522 hx4 (by decide)) (by decide) (by decide)
    refine z_ok_b (t_f_Mo_extended W S r1 x3 q (z_w hx3 (by decide) (by decide)) hq (by omega)) (fun r19 hr19 => ?_)
    refine z_ok_b (t_f_Mo_extended W S x1 x3 q (z_w hx3 (by decide) (by decide)) hq (by omega)) (fun r20 hr20 => ?_)
    refine z_ok_b (t_f_Mo_multiplySigned W S r19 r20 q hq (by omega)) (fun r21 hr21 => ?_)
    exact t_k_Mo_multiplyOperand_38 W S x3 x4 r21 hx3 (z_w z234524 (by decide) (by decide)) hr21 hW

set_option maxHeartbeats 4000000 in
set_option maxRecDepth 100000 in
theorem t_k_Mo_unary_190 (W : Nat) (S : z_SS) (q : z_Sg) (hq : iM (W + 8) z_Z q) (hW : W + 8 ≤ 16) : z_ok (k_Mo_unary_190 q) (fun o : z_Sg => iM (W + 8) z_Z o) := by
  unfold k_Mo_unary_190
  exact z_ok_s hq

set_option maxHeartbeats 4000000 in
set_option maxRecDepth 100000 in
theorem t_k_Mo_unary_187 (W : Nat) (S : z_SS) (t1 : Int64) (t2 : Int32) (t3 : Int32) (q : z_Sg) (ht2 : y_in t2 (1) (8)) (ht3 : y_in t3 (0) (1)) (hq : iM W (t2, true, fun _ _ _ => True) q) (hW : W + 8 ≤ 16) : z_ok (k_Mo_unary_187 t1 t2 t3 q) (fun o : z_Sg => iM (W + 8) z_Z o) := by
  unfold k_Mo_unary_187
  refine z_ok_b (t_f_Mo_divide W (t2, true, fun _ _ _ => True) t1 t2 t3 q ht2 ht3 hq (by omega)) (fun r11 hr11 => ?_)
  exact t_k_Mo_unary_190 W S r11 (iM_w (iM_0 hr11) (by omega)) hW

set_option maxHeartbeats 4000000 in
set_option maxRecDepth 100000 in
theorem t_k_Mo_unary_159 (W : Nat) (S : z_SS) (t1 : Int64) (t2 : Int32) (t3 : Int32) (q : z_Sg) (ht2 : y_in t2 (1) (8)) (ht3 : y_in t3 (0) (1)) (hq : iM W (t2, true, fun _ _ _ => True) q) (hW : W + 8 ≤ 16) : z_ok (k_Mo_unary_159 t1 t2 t3 q) (fun o : z_Sg => iM (W + 8) z_Z o) := by
  unfold k_Mo_unary_159
  refine z_ok_b (t_f_Mo_multiplyOperand W (t2, true, fun _ _ _ => True) t1 t2 t3 q ht2 ht3 hq (by omega)) (fun r14 hr14 => ?_)
  exact t_k_Mo_unary_190 W S r14 (iM_w (iM_0 hr14) (by omega)) hW

set_option maxHeartbeats 4000000 in
set_option maxRecDepth 100000 in
theorem t_k_Mo_unary_18 (W : Nat) (S : z_SS) (x1 : Int32) (q : z_Sg) (hx1 : y_in x1 (1) (8)) (hq : iM W z_Z q) (hW : W + 8 ≤ 16) : z_ok (k_Mo_unary_18 x1 q) (fun o : z_Sg => iM (W + 8) z_Z o) := by
  unfold k_Mo_unary_18
  refine z_ok_b (t_f_Mo_takePlace W z_Z q hq (by omega)) (fun r3 hr3 => ?_)
  refine z_ok_n (fun q4 eq4 => ?_)
  have hq4 : iM W z_Z q4 := by rw [eq4]; exact (iM_sL hr3)
  refine z_ok_i (fun c234525 => ?_) (fun c234525 => ?_)
  · have z234526 : y_in (z_gI q4 8) (0) (0) := z_w (z_eq1 c234525 (show y_in (0 : Int32) (0) (0) from ⟨by decide, by decide⟩)) (by decide) (by decide)
    refine z_ok_b (t_f_Mo_four W z_Z x1 q4 hx1 hq4 (by omega)) (fun r20 hr20 => ?_)
    refine z_ok_b (t_f_Mo_number W z_Z r20 q4 (z_w hr20 (by decide) (by decide)) hq4 (by omega)) (fun r21 hr21 => ?_)
    refine z_ok_b (t_f_Mo_lowest W z_Z r21.1 x1 r21.2 hx1 hr21 (by omega)) (fun r22 hr22 => ?_)
    refine z_ok_b (t_f_Mo_e W z_Z x1 (0 : Int32) r21.2 hx1 (z_w (show y_in (0 : Int32) (0) (0) from ⟨by decide, by decide⟩) (by decide) (by decide)) hr21 (by omega)) (fun r23 hr23 => ?_)
    refine z_ok_b (t_f_Mo_logic W (x1, true, fun _ _ _ => True) (r23.1 &&& r22) x1 r23.2 hx1 hr23 (by omega)) (fun r24 hr24 => ?_)
    exact t_k_Mo_unary_190 W S r24.2 (iM_w (iM_0 hr24) (by omega)) hW
  · have z234527 : y_in (z_gI q4 8) (1) (7) := z_w (z_ne1 c234525 (iM_f8 hq4) (by decide)) (by decide) (by decide)
    refine z_ok_i (fun c234528 => ?_) (fun c234528 => ?_)
    · have z234529 : y_in (z_gI q4 8) (2) (2) := z_w (z_eq1 c234528 (show y_in (2 : Int32) (2) (2) from ⟨by decide, by decide⟩)) (by decide) (by decide)
      refine z_ok_b (t_f_Mo_e W z_Z x1 (1 : Int32) q4 hx1 (z_w (show y_in (1 : Int32) (1) (1) from ⟨by decide, by decide⟩) (by decide) (by decide)) hq4 (by omega)) (fun r18 hr18 => ?_)
      refine z_ok_b (t_f_Mo_setE W (x1, true, fun _ _ _ => True) x1 (r18.1 ^^^ (-1 : Int64)) r18.2 hx1 hr18 (by omega)) (fun r19 hr19 => ?_)
      exact t_k_Mo_unary_190 W S r19 (iM_0 hr19) hW
    · refine z_ok_i (fun c234530 => ?_) (fun c234530 => ?_)
      · have z234531 : y_in (z_gI q4 8) (3) (3) := z_w (z_eq1 c234530 (show y_in (3 : Int32) (3) (3) from ⟨by decide, by decide⟩)) (by decide) (by decide)
        refine z_ok_b (t_f_Mo_e W z_Z x1 (1 : Int32) q4 hx1 (z_w (show y_in (1 : Int32) (1) (1) from ⟨by decide, by decide⟩) (by decide) (by decide)) hq4 (by omega)) (fun r15 hr15 => ?_)
        refine z_ok_b (t_f_Mo_add W (x1, true, fun _ _ _ => True) (0 : Int64) r15.1 (0 : Int32) (1 : Int32) x1 r15.2 (z_w (show y_in (0 : Int32) (0) (0) from ⟨by decide, by decide⟩) (by decide) (by decide)) (z_w (show y_in (1 : Int32) (1) (1) from ⟨by decide, by decide⟩) (by decide) (by decide)) hx1 hr15 (by omega)) (fun r16 hr16 => ?_)
        refine z_ok_b (t_f_Mo_setE W (x1, true, fun _ _ _ => True) x1 r16.1 r16.2 hx1 hr16 (by omega)) (fun r17 hr17 => ?_)
        exact t_k_Mo_unary_190 W S r17 (iM_0 hr17) hW
      · refine z_ok_i (fun c234532 => ?_) (fun c234532 => ?_)
        · have z234533 : y_in (z_gI q4 8) (6) (7) := z_w (z_le2 c234532 (show y_in (6 : Int32) (6) (6) from ⟨by decide, by decide⟩) z234527) (by decide) (by decide)
          refine z_ok_b (t_f_Mo_e W z_Z x1 (0 : Int32) q4 hx1 (z_w (show y_in (0 : Int32) (0) (0) from ⟨by decide, by decide⟩) (by decide) (by decide)) hq4 (by omega)) (fun r9 hr9 => ?_)
          refine z_ok_i (fun c234534 => ?_) (fun c234534 => ?_)
          · have z234535 : y_in (z_gI r9.2 8) (7) (7) := z_w (z_eq1 c234534 (show y_in (7 : Int32) (7) (7) from ⟨by decide, by decide⟩)) (by decide) (by decide)
            exact t_k_Mo_unary_187 W S r9.1 x1 (1 : Int32) r9.2 hx1 (z_w (show y_in (1 : Int32) (1) (1) from ⟨by decide, by decide⟩) (by decide) (by decide)) hr9 hW
          · have z234536 : y_in (z_gI r9.2 8) (0) (6) := z_w (z_ne2 c234534 (iM_f8 hr9) (by decide)) (by decide) (by decide)
            exact t_k_Mo_unary_187 W S r9.1 x1 (0 : Int32) r9.2 hx1 (z_w (show y_in (0 : Int32) (0) (0) from ⟨by decide, by decide⟩) (by decide) (by decide)) hr9 hW
        · have z234537 : y_in (z_gI q4 8) (1) (5) := z_w (z_nle2 c234532 (show y_in (6 : Int32) (6) (6) from ⟨by decide, by decide⟩) z234527) (by decide) (by decide)
          refine z_ok_b (t_f_Mo_e W z_Z x1 (0 : Int32) q4 hx1 (z_w (show y_in (0 : Int32) (0) (0) from ⟨by decide, by decide⟩) (by decide) (by decide)) hq4 (by omega)) (fun r12 hr12 => ?_)
          refine z_ok_i (fun c234538 => ?_) (fun c234538 => ?_)
          · have z234539 : y_in (z_gI r12.2 8) (5) (5) := z_w (z_eq1 c234538 (show y_in (5 : Int32) (5) (5) from ⟨by decide, by decide⟩)) (by decide) (by decide)
            exact t_k_Mo_unary_159 W S r12.1 x1 (1 : Int32) r12.2 hx1 (z_w (show y_in (1 : Int32) (1) (1) from ⟨by decide, by decide⟩) (by decide) (by decide)) hr12 hW
          · exact t_k_Mo_unary_159 W S r12.1 x1 (0 : Int32) r12.2 hx1 (z_w (show y_in (0 : Int32) (0) (0) from ⟨by decide, by decide⟩) (by decide) (by decide)) hr12 hW

set_option maxHeartbeats 4000000 in
set_option maxRecDepth 100000 in
theorem t_f_Mo_unary (W : Nat) (S : z_SS) (x1 : Int32) (q : z_Sg) (hx1 : y_in x1 (1) (8)) (hq : iM W S q) (hW : W + 8 ≤ 16) : z_ok (f_Mo_unary x1 q) (fun o : z_Sg => iM (W + 8) z_Z o) := by
  unfold f_Mo_unary
  refine z_ok_b (t_f_Mo_takeMod W S q hq (by omega)) (fun r1 hr1 => ?_)
  refine z_ok_i (fun c234540 => ?_) (fun c234540 => ?_)
  · have z234541 : y_in (z_gI r1 8) (1) (1) := z_w (z_eq1 c234540 (show y_in (1 : Int32) (1) (1) from ⟨by decide, by decide⟩)) (by decide) (by decide)
    refine z_ok_b (t_f_Mo_refuse W z_Z (6 : Int32) r1 (z_w (show y_in (6 : Int32) (6) (6) from ⟨by decide, by decide⟩) (by decide) (by decide)) hr1 (by omega)) (fun r25 hr25 => ?_)
    exact t_k_Mo_unary_18 W S x1 r25 hx1 hr25 hW
  · exact t_k_Mo_unary_18 W S x1 r1 hx1 hr1 hW

set_option maxHeartbeats 4000000 in
set_option maxRecDepth 100000 in
theorem t_f_Mo_push (W : Nat) (S : z_SS) (x1 : Int64) (x3 : Int32) (q : z_Sg) (hx3 : y_in x3 (2) (8)) (hq : iM W S q) (hW : W + 8 ≤ 16) : z_ok (f_Mo_push x1 x3 q) (fun o : z_Sg => iM (W + 8) S o) := by
  unfold f_Mo_push
  refine z_ok_g (z_nbad (z_w (show y_in (4 : Int32) (4) (4) from ⟨by decide, by decide⟩) (by decide) (Int.le_refl _)) (by decide)) ?_
  refine z_ok_b (t_f_Mo_lookUp W S ((z_gM q 0 (4 : Int32).toNatClampNeg) - x3.toInt64) x3 (1 : Int32) (1 : Int32) q (z_w hx3 (by decide) (by decide)) (z_w (show y_in (1 : Int32) (1) (1) from ⟨by decide, by decide⟩) (by decide) (by decide)) (z_w (show y_in (1 : Int32) (1) (1) from ⟨by decide, by decide⟩) (by decide) (by decide)) hq (by omega)) (fun r2 hr2 => ?_)
  refine z_ok_i (fun c234542 => ?_) (fun c234542 => ?_)
  · have z234543 : y_in (z_gI r2 4) (-1) (-1) := z_w (z_eq1 c234542 (show y_in (-1 : Int32) (-1) (-1) from ⟨by decide, by decide⟩)) (by decide) (by decide)
    refine z_ok_g (z_nbad (z_w (show y_in (4 : Int32) (4) (4) from ⟨by decide, by decide⟩) (by decide) (Int.le_refl _)) (by decide)) ?_
    refine z_ok_g (z_nbad (z_w (show y_in (4 : Int32) (4) (4) from ⟨by decide, by decide⟩) (by decide) (Int.le_refl _)) (by decide)) ?_
    refine z_ok_n (fun q6 eq6 => ?_)
    have hq6 : iM W S q6 := by rw [eq6]; exact (iM_sM0 hr2.1.1)
    refine z_ok_b (t_f_Mo_hold W S x1 x3 q6 (z_w hx3 (by decide) (by decide)) hq6 (by omega) (by rw [eq6]; exact hr2.1.2)) (fun r7 hr7 => ?_)
    exact z_ok_s hr7
  · have z234544 : y_in (z_gI r2 4) (0) (14) := z_w (z_ne1 c234542 (iM_f4 hr2.1.1) (by decide)) (by decide) (by decide)
    exact z_ok_s (iM_w hr2.1.1 (by omega))

set_option maxHeartbeats 4000000 in
set_option maxRecDepth 100000 in
theorem t_k_Mo_jump_21 (W : Nat) (S : z_SS) (q : z_Sg) (hq : iM W S q) (hW : W + 0 ≤ 16) : z_ok (k_Mo_jump_21 q) (fun o : z_Sg => iM W S o) := by
  unfold k_Mo_jump_21
  exact z_ok_s hq

set_option maxHeartbeats 4000000 in
set_option maxRecDepth 100000 in
theorem t_f_Mo_jump (W : Nat) (S : z_SS) (x1 : Int64) (q : z_Sg) (hq : iM W S q) (hW : W + 0 ≤ 16) : z_ok (f_Mo_jump x1 q) (fun o : z_Sg => iM W S o) := by
  unfold f_Mo_jump
  refine z_ok_b (t_f_Mo_isWrong W S x1 q hq (by omega)) (fun r1 hr1 => ?_)
  refine z_ok_i (fun c234545 => ?_) (fun c234545 => ?_)
  · have z234546 : y_in r1 (0) (0) := z_w (z_eq1 c234545 (show y_in (0 : Int32) (0) (0) from ⟨by decide, by decide⟩)) (by decide) (by decide)
    refine z_ok_n (fun q3 eq3 => ?_)
    have hq3 : iM W S q3 := by rw [eq3]; exact (iM_sL hq)
    exact t_k_Mo_jump_21 W S q3 hq3 hW
  · have z234547 : y_in r1 (1) (1) := z_w (z_ne1 c234545 hr1 (by decide)) (by decide) (by decide)
    refine z_ok_b (t_f_Mo_refuse W S (13 : Int32) q (z_w (show y_in (13 : Int32) (13) (13) from ⟨by decide, by decide⟩) (by decide) (by decide)) hq (by omega)) (fun r4 hr4 => ?_)
    exact t_k_Mo_jump_21 W S r4 hr4 hW

set_option maxHeartbeats 4000000 in
set_option maxRecDepth 100000 in
theorem t_k_Mo_stackSize_23 (W : Nat) (S : z_SS) (t0 : Int32) (q : z_Sg) (ht0 : y_in t0 (2) (8)) (hq : iM W S q) (hW : W + 0 ≤ 16) : z_ok (k_Mo_stackSize_23 t0 q) (fun o : Int32 => y_in o (2) (8)) := by
  unfold k_Mo_stackSize_23
  exact z_ok_s ht0

set_option maxHeartbeats 4000000 in
set_option maxRecDepth 100000 in
theorem t_k_Mo_stackSize_21 (W : Nat) (S : z_SS) (q : z_Sg) (hq : iM W S q) (hW : W + 0 ≤ 16) : z_ok (k_Mo_stackSize_21 q) (fun o : Int32 => y_in o (2) (8)) := by
  unfold k_Mo_stackSize_21
  exact t_k_Mo_stackSize_23 W S (8 : Int32) q (z_w (show y_in (8 : Int32) (8) (8) from ⟨by decide, by decide⟩) (by decide) (by decide)) hq hW

set_option maxHeartbeats 4000000 in
set_option maxRecDepth 100000 in
theorem t_f_Mo_stackSize (W : Nat) (S : z_SS) (q : z_Sg) (hq : iM W S q) (hW : W + 0 ≤ 16) : z_ok (f_Mo_stackSize q) (fun o : Int32 => y_in o (2) (8)) := by
  unfold f_Mo_stackSize
  refine z_ok_i (fun c234548 => ?_) (fun c234548 => ?_)
  · have z234549 : y_in (z_gI q 16) (0) (0) := z_w (z_eq1 c234548 (show y_in (0 : Int32) (0) (0) from ⟨by decide, by decide⟩)) (by decide) (by decide)
    exact t_k_Mo_stackSize_21 W S q hq hW
  · have z234550 : y_in (z_gI q 16) (1) (1) := z_w (z_ne1 c234548 (iM_f16 hq) (by decide)) (by decide) (by decide)
    refine z_ok_i (fun c234551 => ?_) (fun c234551 => ?_)
    · have z234552 : y_in ((z_gI q 10) &&& (8 : Int32)) (0) (0) := z_w (z_eq1 c234551 (show y_in (0 : Int32) (0) (0) from ⟨by decide, by decide⟩)) (by decide) (by decide)
      exact t_k_Mo_stackSize_23 W S (2 : Int32) q (z_w (show y_in (2 : Int32) (2) (2) from ⟨by decide, by decide⟩) (by decide) (by decide)) hq hW
    · have z234553 : y_in ((z_gI q 10) &&& (8 : Int32)) (1) (8) := z_w (z_ne1 c234551 (z_and (show y_in (8 : Int32) (8) (8) from ⟨by decide, by decide⟩) (by decide)) (by decide)) (by decide) (by decide)
      exact t_k_Mo_stackSize_21 W S q hq hW

set_option maxHeartbeats 4000000 in
set_option maxRecDepth 100000 in
theorem t_k_Mo_more_224 (W : Nat) (S : z_SS) (q : z_Sg) (hq : iM (W + 8) z_Z q) (hW : W + 8 ≤ 16) : z_ok (k_Mo_more_224 q) (fun o : z_Sg => iM (W + 8) z_Z o) := by
  unfold k_Mo_more_224
  exact z_ok_s hq

set_option maxHeartbeats 4000000 in
set_option maxRecDepth 100000 in
theorem t_k_Mo_more_209 (W : Nat) (S : z_SS) (x3 : Int64) (q : z_Sg) (hq : iM W ((8 : Int32), true, fun _ _ _ => True) q) (hW : W + 8 ≤ 16) : z_ok (k_Mo_more_209 x3 q) (fun o : z_Sg => iM (W + 8) z_Z o) := by
  unfold k_Mo_more_209
  refine z_ok_i (fun c234554 => ?_) (fun c234554 => ?_)
  · have z234555 : y_in (z_gI q 8) (2) (2) := z_w (z_eq1 c234554 (show y_in (2 : Int32) (2) (2) from ⟨by decide, by decide⟩)) (by decide) (by decide)
    refine z_ok_b (t_f_Mo_push W ((8 : Int32), true, fun _ _ _ => True) x3 (8 : Int32) q (z_w (show y_in (8 : Int32) (8) (8) from ⟨by decide, by decide⟩) (by decide) (by decide)) hq (by omega)) (fun r13 hr13 => ?_)
    exact t_k_Mo_more_224 W S r13 (iM_0 hr13) hW
  · exact t_k_Mo_more_224 W S q (iM_w (iM_0 hq) (by omega)) hW

set_option maxHeartbeats 4000000 in
set_option maxRecDepth 100000 in
theorem t_k_Mo_more_129 (W : Nat) (S : z_SS) (x1 : Int32) (x3 : Int32) (t1 : Int64) (t2 : Int64) (t3 : Int32) (t4 : Int32) (q : z_Sg) (hx1 : y_in x1 (1) (8)) (hx3 : y_in x3 (0) (1)) (ht2 : y_il t2 (1) (1)) (ht3 : y_in t3 (0) (0)) (ht4 : y_in t4 (0) (1)) (hq : iM W (x1, true, fun _ _ _ => True) q) (hW : W + 8 ≤ 16) : z_ok (k_Mo_more_129 x1 x3 t1 t2 t3 t4 q) (fun o : z_Sg => iM (W + 8) z_Z o) := by
  unfold k_Mo_more_129
  refine z_ok_b (t_f_Mo_add W (x1, true, fun _ _ _ => True) t1 t2 t3 t4 x1 q (z_w ht3 (by decide) (by decide)) ht4 hx1 hq (by omega)) (fun r23 hr23 => ?_)
  refine z_ok_g (z_nbad (show y_in (0 : Int32) (0) (0) from ⟨by decide, by decide⟩) (by decide)) ?_
  refine z_ok_n (fun q25 eq25 => ?_)
  have hq25 : iM W (x1, true, fun _ _ _ => True) q25 := by rw [eq25]; exact (iM_sN1 hr23)
  refine z_ok_b (t_f_Mo_setE W (x1, true, fun _ _ _ => True) x1 r23.1 q25 hx1 hq25 (by omega)) (fun r26 hr26 => ?_)
  exact t_k_Mo_more_224 W S r26 (iM_0 hr26) hW

set_option maxHeartbeats 4000000 in
set_option maxRecDepth 100000 in
theorem t_k_Mo_more_65 (W : Nat) (S : z_SS) (x1 : Int32) (q : z_Sg) (hx1 : y_in x1 (1) (8)) (hq : iM W z_Z q) (hW : W + 8 ≤ 16) : z_ok (k_Mo_more_65 x1 q) (fun o : z_Sg => iM (W + 8) z_Z o) := by
  unfold k_Mo_more_65
  refine z_ok_b (t_f_Mo_takePlace W z_Z q hq (by omega)) (fun r4 hr4 => ?_)
  refine z_ok_n (fun q5 eq5 => ?_)
  have hq5 : iM W z_Z q5 := by rw [eq5]; exact (iM_sL hr4)
  refine z_ok_i (fun c234556 => ?_) (fun c234556 => ?_)
  · have z234557 : y_in (z_gI q5 4) (-1) (-1) := z_w (z_eq1 c234556 (show y_in (-1 : Int32) (-1) (-1) from ⟨by decide, by decide⟩)) (by decide) (by decide)
    refine z_ok_i (fun c234558 => ?_) (fun c234558 => ?_)
    · have z234559 : y_in (z_gI q5 8) (2) (7) := z_w (z_le2 c234558 (show y_in (2 : Int32) (2) (2) from ⟨by decide, by decide⟩) (iM_f8 hq5)) (by decide) (by decide)
      refine z_ok_i (fun c234560 => ?_) (fun c234560 => ?_)
      · have z234561 : y_in (z_gI q5 8) (6) (6) := z_w (z_eq1 c234560 (show y_in (6 : Int32) (6) (6) from ⟨by decide, by decide⟩)) (by decide) (by decide)
        refine z_ok_b (t_f_Mo_stackSize W z_Z q5 hq5 (by omega)) (fun r15 hr15 => ?_)
        refine z_ok_b (t_f_Mo_e W z_Z r15 (0 : Int32) q5 (z_w hr15 (by decide) (by decide)) (z_w (show y_in (0 : Int32) (0) (0) from ⟨by decide, by decide⟩) (by decide) (by decide)) hq5 (by omega)) (fun r16 hr16 => ?_)
        refine z_ok_b (t_f_Mo_stackSize W (r15, true, fun _ _ _ => True) r16.2 hr16 (by omega)) (fun r17 hr17 => ?_)
        refine z_ok_b (t_f_Mo_push W (r15, true, fun _ _ _ => True) r16.1 r17 r16.2 hr17 hr16 (by omega)) (fun r18 hr18 => ?_)
        exact t_k_Mo_more_224 W S r18 (iM_0 hr18) hW
      · refine z_ok_n (fun n9 en9 => ?_)
        refine z_ok_b (t_f_Mo_e W z_Z (8 : Int32) (0 : Int32) q5 (z_w (show y_in (8 : Int32) (8) (8) from ⟨by decide, by decide⟩) (by decide) (by decide)) (z_w (show y_in (0 : Int32) (0) (0) from ⟨by decide, by decide⟩) (by decide) (by decide)) hq5 (by omega)) (fun r10 hr10 => ?_)
        refine z_ok_i (fun c234562 => ?_) (fun c234562 => ?_)
        · have z234563 : y_in (z_gI r10.2 4) (-1) (-1) := z_w (z_eq1 c234562 (show y_in (-1 : Int32) (-1) (-1) from ⟨by decide, by decide⟩)) (by decide) (by decide)
          refine z_ok_b (t_f_Mo_jump W ((8 : Int32), true, fun _ _ _ => True) r10.1 r10.2 hr10 (by omega)) (fun r14 hr14 => ?_)
          exact t_k_Mo_more_209 W S n9 r14 hr14 hW
        · have z234564 : y_in (z_gI r10.2 4) (0) (14) := z_w (z_ne1 c234562 (iM_f4 hr10) (by decide)) (by decide) (by decide)
          exact t_k_Mo_more_209 W S n9 r10.2 hr10 hW
    · have z234565 : y_in (z_gI q5 8) (0) (1) := z_w (z_nle2 c234558 (show y_in (2 : Int32) (2) (2) from ⟨by decide, by decide⟩) (iM_f8 hq5)) (by decide) (by decide)
      refine z_ok_g (z_nbad (show y_in (0 : Int32) (0) (0) from ⟨by decide, by decide⟩) (by decide)) ?_
      refine z_ok_n (fun n20 en20 => ?_)
      have hn20 : y_in n20 (0) (1) := z_e en20 (iM_n1 hq5 _)
      refine z_ok_b (t_f_Mo_e W z_Z x1 (1 : Int32) q5 hx1 (z_w (show y_in (1 : Int32) (1) (1) from ⟨by decide, by decide⟩) (by decide) (by decide)) hq5 (by omega)) (fun r21 hr21 => ?_)
      refine z_ok_i (fun c234566 => ?_) (fun c234566 => ?_)
      · have z234567 : y_in (z_gI r21.2 8) (1) (1) := z_w (z_eq1 c234566 (show y_in (1 : Int32) (1) (1) from ⟨by decide, by decide⟩)) (by decide) (by decide)
        exact t_k_Mo_more_129 W S x1 n20 r21.1 (1 : Int64) (0 : Int32) (1 : Int32) r21.2 hx1 hn20 (show y_il (1 : Int64) (1) (1) from ⟨by decide, by decide⟩) (show y_in (0 : Int32) (0) (0) from ⟨by decide, by decide⟩) (z_w (show y_in (1 : Int32) (1) (1) from ⟨by decide, by decide⟩) (by decide) (by decide)) hr21 hW
      · exact t_k_Mo_more_129 W S x1 n20 r21.1 (1 : Int64) (0 : Int32) (0 : Int32) r21.2 hx1 hn20 (show y_il (1 : Int64) (1) (1) from ⟨by decide, by decide⟩) (show y_in (0 : Int32) (0) (0) from ⟨by decide, by decide⟩) (z_w (show y_in (0 : Int32) (0) (0) from ⟨by decide, by decide⟩) (by decide) (by decide)) hr21 hW
  · have z234568 : y_in (z_gI q5 4) (0) (14) := z_w (z_ne1 c234556 (iM_f4 hq5) (by decide)) (by decide) (by decide)
    exact z_ok_s (iM_w hq5 (by omega))

set_option maxHeartbeats 4000000 in
set_option maxRecDepth 100000 in
theorem t_k_Mo_more_54 (W : Nat) (S : z_SS) (x1 : Int32) (t0 : Int32) (q : z_Sg) (hx1 : y_in x1 (1) (8)) (ht0 : y_in t0 (0) (1)) (hq : iM W z_Z q) (hW : W + 8 ≤ 16) : z_ok (k_Mo_more_54 x1 t0 q) (fun o : z_Sg => iM (W + 8) z_Z o) := by
  unfold k_Mo_more_54
  refine z_ok_i (fun c234569 => ?_) (fun c234569 => ?_)
  · have z234570 : y_in t0 (0) (0) := z_w (z_eq1 c234569 (show y_in (0 : Int32) (0) (0) from ⟨by decide, by decide⟩)) (by decide) (by decide)
    refine z_ok_b (t_f_Mo_refuse W z_Z (6 : Int32) q (z_w (show y_in (6 : Int32) (6) (6) from ⟨by decide, by decide⟩) (by decide) (by decide)) hq (by omega)) (fun r27 hr27 => ?_)
    exact t_k_Mo_more_65 W S x1 r27 hx1 hr27 hW
  · have z234571 : y_in t0 (1) (1) := z_w (z_ne1 c234569 ht0 (by decide)) (by decide) (by decide)
    exact t_k_Mo_more_65 W S x1 q hx1 hq hW

set_option maxHeartbeats 4000000 in
set_option maxRecDepth 100000 in
theorem t_k_Mo_more_49 (W : Nat) (S : z_SS) (x1 : Int32) (q : z_Sg) (hx1 : y_in x1 (1) (8)) (hq : iM W z_Z q) (hW : W + 8 ≤ 16) : z_ok (k_Mo_more_49 x1 q) (fun o : z_Sg => iM (W + 8) z_Z o) := by
  unfold k_Mo_more_49
  exact t_k_Mo_more_54 W S x1 (1 : Int32) q hx1 (z_w (show y_in (1 : Int32) (1) (1) from ⟨by decide, by decide⟩) (by decide) (by decide)) hq hW

set_option maxHeartbeats 4000000 in
set_option maxRecDepth 100000 in
theorem t_k_Mo_more_53 (W : Nat) (S : z_SS) (x1 : Int32) (q : z_Sg) (hx1 : y_in x1 (1) (8)) (hq : iM W z_Z q) (hW : W + 8 ≤ 16) : z_ok (k_Mo_more_53 x1 q) (fun o : z_Sg => iM (W + 8) z_Z o) := by
  unfold k_Mo_more_53
  exact t_k_Mo_more_54 W S x1 (0 : Int32) q hx1 (z_w (show y_in (0 : Int32) (0) (0) from ⟨by decide, by decide⟩) (by decide) (by decide)) hq hW

set_option maxHeartbeats 4000000 in
set_option maxRecDepth 100000 in
theorem t_k_Mo_more_42 (W : Nat) (S : z_SS) (x1 : Int32) (q : z_Sg) (hx1 : y_in x1 (2) (8)) (hq : iM W z_Z q) (hW : W + 8 ≤ 16) : z_ok (k_Mo_more_42 x1 q) (fun o : z_Sg => iM (W + 8) z_Z o) := by
  unfold k_Mo_more_42
  refine z_ok_i (fun c234572 => ?_) (fun c234572 => ?_)
  · have z234573 : y_in (z_gI q 16) (0) (0) := z_w (z_eq1 c234572 (show y_in (0 : Int32) (0) (0) from ⟨by decide, by decide⟩)) (by decide) (by decide)
    exact t_k_Mo_more_49 W S x1 q (z_w hx1 (by decide) (by decide)) hq hW
  · have z234574 : y_in (z_gI q 16) (1) (1) := z_w (z_ne1 c234572 (iM_f16 hq) (by decide)) (by decide) (by decide)
    exact t_k_Mo_more_53 W S x1 q (z_w hx1 (by decide) (by decide)) hq hW

set_option maxHeartbeats 4000000 in
set_option maxRecDepth 100000 in
theorem t_f_Mo_more (W : Nat) (S : z_SS) (x1 : Int32) (q : z_Sg) (hx1 : y_in x1 (1) (8)) (hq : iM W S q) (hW : W + 8 ≤ 16) : z_ok (f_Mo_more x1 q) (fun o : z_Sg => iM (W + 8) z_Z o) := by
  unfold f_Mo_more
  refine z_ok_b (t_f_Mo_takeMod W S q hq (by omega)) (fun r1 hr1 => ?_)
  refine z_ok_i (fun c234575 => ?_) (fun c234575 => ?_)
  · have z234576 : y_in (z_gI r1 8) (0) (1) := z_w (z_lt1 c234575 (iM_f8 hr1) (show y_in (2 : Int32) (2) (2) from ⟨by decide, by decide⟩)) (by decide) (by decide)
    exact t_k_Mo_more_49 W S x1 r1 hx1 hr1 hW
  · have z234577 : y_in (z_gI r1 8) (2) (7) := z_w (z_nlt1 c234575 (iM_f8 hr1) (show y_in (2 : Int32) (2) (2) from ⟨by decide, by decide⟩)) (by decide) (by decide)
    refine z_ok_i (fun c234578 => ?_) (fun c234578 => ?_)
    · have z234579 : y_in x1 (1) (1) := z_w (z_le1 c234578 hx1 (show y_in (1 : Int32) (1) (1) from ⟨by decide, by decide⟩)) (by decide) (by decide)
      exact t_k_Mo_more_53 W S x1 r1 (z_w z234579 (by decide) (by decide)) hr1 hW
    · have z234580 : y_in x1 (2) (8) := z_w (z_nle1 c234578 hx1 (show y_in (1 : Int32) (1) (1) from ⟨by decide, by decide⟩)) (by decide) (by decide)
      refine z_ok_i (fun c234581 => ?_) (fun c234581 => ?_)
      · have z234582 : y_in (z_gI r1 8) (6) (6) := z_w (z_eq1 c234581 (show y_in (6 : Int32) (6) (6) from ⟨by decide, by decide⟩)) (by decide) (by decide)
        exact t_k_Mo_more_49 W S x1 r1 (z_w z234580 (by decide) (by decide)) hr1 hW
      · refine z_ok_i (fun c234583 => ?_) (fun c234583 => ?_)
        · have z234584 : y_in (z_gI r1 8) (2) (2) := z_w (z_eq1 c234583 (show y_in (2 : Int32) (2) (2) from ⟨by decide, by decide⟩)) (by decide) (by decide)
          exact t_k_Mo_more_42 W S x1 r1 z234580 hr1 hW
        · have z234585 : y_in (z_gI r1 8) (3) (7) := z_w (z_ne1 c234583 z234577 (by decide)) (by decide) (by decide)
          refine z_ok_i (fun c234586 => ?_) (fun c234586 => ?_)
          · have z234587 : y_in (z_gI r1 8) (4) (4) := z_w (z_eq1 c234586 (show y_in (4 : Int32) (4) (4) from ⟨by decide, by decide⟩)) (by decide) (by decide)
            exact t_k_Mo_more_42 W S x1 r1 z234580 hr1 hW
          · exact t_k_Mo_more_53 W S x1 r1 (z_w z234580 (by decide) (by decide)) hr1 hW

set_option maxHeartbeats 4000000 in
set_option maxRecDepth 100000 in
theorem t_k_Mo_pushNumber_25 (W : Nat) (S : z_SS) (t2 : Int32) (q : z_Sg) (ht2 : y_in t2 (1) (4)) (hq : iM W S q) (hW : W + 8 ≤ 16) : z_ok (k_Mo_pushNumber_25 t2 q) (fun o : z_Sg => iM (W + 8) z_Z o) := by
  unfold k_Mo_pushNumber_25
  refine z_ok_b (t_f_Mo_number W S t2 q (z_w ht2 (by decide) (by decide)) hq (by omega)) (fun r4 hr4 => ?_)
  refine z_ok_b (t_f_Mo_stackSize W z_Z r4.2 hr4 (by omega)) (fun r5 hr5 => ?_)
  refine z_ok_b (t_f_Mo_push W z_Z r4.1 r5 r4.2 hr5 hr4 (by omega)) (fun r6 hr6 => ?_)
  exact z_ok_s hr6

set_option maxHeartbeats 4000000 in
set_option maxRecDepth 100000 in
theorem t_f_Mo_pushNumber (W : Nat) (S : z_SS) (x1 : Int32) (q : z_Sg) (hx1 : y_in x1 (104) (106)) (hq : iM W S q) (hW : W + 8 ≤ 16) : z_ok (f_Mo_pushNumber x1 q) (fun o : z_Sg => iM (W + 8) z_Z o) := by
  unfold f_Mo_pushNumber
  refine z_ok_i (fun c234588 => ?_) (fun c234588 => ?_)
  · have z234589 : y_in x1 (106) (106) := z_w (z_eq1 c234588 (show y_in (106 : Int32) (106) (106) from ⟨by decide, by decide⟩)) (by decide) (by decide)
    exact t_k_Mo_pushNumber_25 W S (1 : Int32) q (z_w (show y_in (1 : Int32) (1) (1) from ⟨by decide, by decide⟩) (by decide) (by decide)) hq hW
  · have z234590 : y_in x1 (104) (105) := z_w (z_ne2 c234588 hx1 (by decide)) (by decide) (by decide)
    refine z_ok_b (t_f_Mo_stackSize W S q hq (by omega)) (fun r2 hr2 => ?_)
    refine z_ok_i (fun c234591 => ?_) (fun c234591 => ?_)
    · have z234592 : y_in r2 (2) (2) := z_w (z_eq1 c234591 (show y_in (2 : Int32) (2) (2) from ⟨by decide, by decide⟩)) (by decide) (by decide)
      exact t_k_Mo_pushNumber_25 W S (2 : Int32) q (z_w (show y_in (2 : Int32) (2) (2) from ⟨by decide, by decide⟩) (by decide) (by decide)) hq hW
    · have z234593 : y_in r2 (3) (8) := z_w (z_ne1 c234591 hr2 (by decide)) (by decide) (by decide)
      exact t_k_Mo_pushNumber_25 W S (4 : Int32) q (z_w (show y_in (4 : Int32) (4) (4) from ⟨by decide, by decide⟩) (by decide) (by decide)) hq hW

set_option maxHeartbeats 4000000 in
set_option maxRecDepth 100000 in
theorem t_f_Mo_setG (W : Nat) (S : z_SS) (x1 : Int32) (x2 : Int64) (q : z_Sg) (hx1 : y_in x1 (1) (8)) (hq : iM W S q) (hW : W + 0 ≤ 16) : z_ok (f_Mo_setG x1 x2 q) (fun o : z_Sg => iM W S o) := by
  unfold f_Mo_setG
  refine z_ok_b (t_f_Mo_plus W S (4 : Int32) q (z_w (show y_in (4 : Int32) (4) (4) from ⟨by decide, by decide⟩) (by decide) (by decide)) hq (by omega)) (fun r1 hr1 => ?_)
  refine z_ok_b (t_f_Mo_put8 W S ((z_gI q 8) + r1) x1 x2 q (z_w (a' := 0) (b' := 15) (z_add (iM_f8 hq) hr1 (by decide) (by decide)) (by decide) (by decide)) hx1 hq (by omega)) (fun r2 hr2 => ?_)
  exact z_ok_s hr2

set_option maxHeartbeats 4000000 in
set_option maxRecDepth 100000 in
theorem t_f_Mo_g (W : Nat) (S : z_SS) (x1 : Int32) (q : z_Sg) (hx1 : y_in x1 (1) (8)) (hq : iM W S q) (hW : W + 0 ≤ 16) : z_ok (f_Mo_g x1 q) (fun _ : Int64 => True) := by
  unfold f_Mo_g
  refine z_ok_b (t_f_Mo_plus W S (4 : Int32) q (z_w (show y_in (4 : Int32) (4) (4) from ⟨by decide, by decide⟩) (by decide) (by decide)) hq (by omega)) (fun r1 hr1 => ?_)
  refine z_ok_b (t_f_Mo_get8 W S ((z_gI q 8) + r1) x1 q (z_w (a' := 0) (b' := 15) (z_add (iM_f8 hq) hr1 (by decide) (by decide)) (by decide) (by decide)) hx1 hq (by omega)) (fun r2 hr2 => ?_)
  exact z_ok_s trivial

set_option maxHeartbeats 4000000 in
set_option maxRecDepth 100000 in
theorem t_k_Mo_product_119 (W : Nat) (S : z_SS) (x2 : Int32) (x7 : Int64) (t0 : Int32) (q : z_Sg) (hx2 : y_in x2 (2) (8)) (ht0 : y_in t0 (0) (1)) (hq : iM W (x2, true, fun _ _ _ => True) q) (hW : W + 0 ≤ 16) : z_ok (k_Mo_product_119 x2 x7 t0 q) (fun o : z_Sg => iM W z_Z o) := by
  unfold k_Mo_product_119
  refine z_ok_b (t_f_Mo_setG W (x2, true, fun _ _ _ => True) x2 x7 q (z_w hx2 (by decide) (by decide)) hq (by omega)) (fun r13 hr13 => ?_)
  refine z_ok_b (t_f_Mo_muchFlags W (x2, true, fun _ _ _ => True) t0 r13 ht0 hr13 (by omega)) (fun r14 hr14 => ?_)
  exact z_ok_s (iM_0 hr14)

set_option maxHeartbeats 4000000 in
set_option maxRecDepth 100000 in
theorem t_k_Mo_product_114 (W : Nat) (S : z_SS) (x2 : Int32) (x7 : Int64) (q : z_Sg) (hx2 : y_in x2 (2) (8)) (hq : iM W (x2, true, fun _ _ _ => True) q) (hW : W + 0 ≤ 16) : z_ok (k_Mo_product_114 x2 x7 q) (fun o : z_Sg => iM W z_Z o) := by
  unfold k_Mo_product_114
  exact t_k_Mo_product_119 W S x2 x7 (1 : Int32) q hx2 (z_w (show y_in (1 : Int32) (1) (1) from ⟨by decide, by decide⟩) (by decide) (by decide)) hq hW

set_option maxHeartbeats 4000000 in
set_option maxRecDepth 100000 in
theorem t_k_Mo_product_110 (W : Nat) (S : z_SS) (x2 : Int32) (x7 : Int64) (t0 : Int64) (t1 : Int64) (q : z_Sg) (hx2 : y_in x2 (2) (8)) (ht1 : y_il t1 (-1) (0)) (hq : iM W (x2, true, fun _ _ _ => True) q) (hW : W + 0 ≤ 16) : z_ok (k_Mo_product_110 x2 x7 t0 t1 q) (fun o : z_Sg => iM W z_Z o) := by
  unfold k_Mo_product_110
  refine z_ok_i (fun c234594 => ?_) (fun c234594 => ?_)
  · exact t_k_Mo_product_119 W S x2 x7 (0 : Int32) q hx2 (z_w (show y_in (0 : Int32) (0) (0) from ⟨by decide, by decide⟩) (by decide) (by decide)) hq hW
  · exact t_k_Mo_product_114 W S x2 x7 q hx2 hq hW

set_option maxHeartbeats 4000000 in
set_option maxRecDepth 100000 in
theorem t_k_Mo_product_46 (W : Nat) (S : z_SS) (x2 : Int32) (t0 : Int64) (q : z_Sg) (hx2 : y_in x2 (2) (8)) (hq : iM W z_Z q) (hW : W + 0 ≤ 16) : z_ok (k_Mo_product_46 x2 t0 q) (fun o : z_Sg => iM W z_Z o) := by
  unfold k_Mo_product_46
  refine z_ok_b (t_f_Mo_e W z_Z x2 (0 : Int32) q (z_w hx2 (by decide) (by decide)) (z_w (show y_in (0 : Int32) (0) (0) from ⟨by decide, by decide⟩) (by decide) (by decide)) hq (by omega)) (fun r7 hr7 => ?_)
  refine z_ok_b (t_f_Mo_extended W (x2, true, fun _ _ _ => True) r7.1 x2 r7.2 (z_w hx2 (by decide) (by decide)) hr7 (by omega)) (fun r8 hr8 => ?_)
  refine z_ok_b (t_f_Mo_multiplySigned W (x2, true, fun _ _ _ => True) r8 t0 r7.2 hr7 (by omega)) (fun r9 hr9 => ?_)
  refine z_ok_b (t_f_Mo_lowest W (x2, true, fun _ _ _ => True) (z_gL r9 8) x2 r9 (z_w hx2 (by decide) (by decide)) hr9 (by omega)) (fun r10 hr10 => ?_)
  refine z_ok_b (t_f_Mo_extended W (x2, true, fun _ _ _ => True) r10 x2 r9 (z_w hx2 (by decide) (by decide)) hr9 (by omega)) (fun r11 hr11 => ?_)
  refine z_ok_i (fun c234595 => ?_) (fun c234595 => ?_)
  · refine z_ok_i (fun c234596 => ?_) (fun c234596 => ?_)
    · exact t_k_Mo_product_110 W S x2 r10 (z_gL r9 9) (0 : Int64) r9 hx2 (z_lw (show y_il (0 : Int64) (0) (0) from ⟨by decide, by decide⟩) (by decide) (by decide)) hr9 hW
    · exact t_k_Mo_product_110 W S x2 r10 (z_gL r9 9) (-1 : Int64) r9 hx2 (z_lw (show y_il (-1 : Int64) (-1) (-1) from ⟨by decide, by decide⟩) (by decide) (by decide)) hr9 hW
  · exact t_k_Mo_product_114 W S x2 r10 r9 hx2 hr9 hW

set_option maxHeartbeats 4000000 in
set_option maxRecDepth 100000 in
theorem t_k_Mo_product_43 (W : Nat) (S : z_SS) (x2 : Int32) (t1 : Int32) (q : z_Sg) (hx2 : y_in x2 (2) (8)) (ht1 : y_in t1 (1) (4)) (hq : iM W z_Z q) (hW : W + 0 ≤ 16) : z_ok (k_Mo_product_43 x2 t1 q) (fun o : z_Sg => iM W z_Z o) := by
  unfold k_Mo_product_43
  refine z_ok_b (t_f_Mo_number W z_Z t1 q (z_w ht1 (by decide) (by decide)) hq (by omega)) (fun r6 hr6 => ?_)
  exact t_k_Mo_product_46 W S x2 r6.1 r6.2 hx2 hr6 hW

set_option maxHeartbeats 4000000 in
set_option maxRecDepth 100000 in
theorem t_f_Mo_product (W : Nat) (S : z_SS) (x1 : Int32) (q : z_Sg) (hx1 : y_in x1 (105) (175)) (hq : iM W S q) (hW : W + 0 ≤ 16) : z_ok (f_Mo_product x1 q) (fun o : z_Sg => iM W z_Z o) := by
  unfold f_Mo_product
  refine z_ok_b (t_f_Mo_wide W S q hq (by omega)) (fun r1 hr1 => ?_)
  refine z_ok_b (t_f_Mo_takeOperand W S q hq (by omega)) (fun r2 hr2 => ?_)
  refine z_ok_i (fun c234597 => ?_) (fun c234597 => ?_)
  · have z234598 : y_in x1 (175) (175) := z_w (z_eq1 c234597 (show y_in (175 : Int32) (175) (175) from ⟨by decide, by decide⟩)) (by decide) (by decide)
    refine z_ok_b (t_f_Mo_g W z_Z r1 r2 (z_w hr1 (by decide) (by decide)) hr2 (by omega)) (fun r17 hr17 => ?_)
    refine z_ok_b (t_f_Mo_extended W z_Z r17 r1 r2 (z_w hr1 (by decide) (by decide)) hr2 (by omega)) (fun r18 hr18 => ?_)
    exact t_k_Mo_product_46 W S r1 r18 r2 hr1 hr2 hW
  · have z234599 : y_in x1 (105) (174) := z_w (z_ne2 c234597 hx1 (by decide)) (by decide) (by decide)
    refine z_ok_i (fun c234600 => ?_) (fun c234600 => ?_)
    · have z234601 : y_in x1 (107) (107) := z_w (z_eq1 c234600 (show y_in (107 : Int32) (107) (107) from ⟨by decide, by decide⟩)) (by decide) (by decide)
      exact t_k_Mo_product_43 W S r1 (1 : Int32) r2 hr1 (z_w (show y_in (1 : Int32) (1) (1) from ⟨by decide, by decide⟩) (by decide) (by decide)) hr2 hW
    · refine z_ok_b (t_f_Mo_four W z_Z r1 r2 (z_w hr1 (by decide) (by decide)) hr2 (by omega)) (fun r5 hr5 => ?_)
      exact t_k_Mo_product_43 W S r1 r5 r2 hr1 hr5 hr2 hW

set_option maxHeartbeats 4000000 in
set_option maxRecDepth 100000 in
theorem t_f_Mo_testNumber (W : Nat) (S : z_SS) (x1 : Int32) (q : z_Sg) (hx1 : y_in x1 (1) (8)) (hq : iM W S q) (hW : W + 0 ≤ 16) : z_ok (f_Mo_testNumber x1 q) (fun o : z_Sg => iM W z_Z o) := by
  unfold f_Mo_testNumber
  refine z_ok_b (t_f_Mo_four W S x1 q hx1 hq (by omega)) (fun r1 hr1 => ?_)
  refine z_ok_b (t_f_Mo_number W S r1 q (z_w hr1 (by decide) (by decide)) hq (by omega)) (fun r2 hr2 => ?_)
  refine z_ok_b (t_f_Mo_get8 W z_Z (0 : Int32) x1 r2.2 (z_w (show y_in (0 : Int32) (0) (0) from ⟨by decide, by decide⟩) (by decide) (by decide)) hx1 hr2 (by omega)) (fun r3 hr3 => ?_)
  refine z_ok_b (t_f_Mo_lowest W z_Z r2.1 x1 r2.2 hx1 hr2 (by omega)) (fun r4 hr4 => ?_)
  refine z_ok_b (t_f_Mo_logic W z_Z (r3 &&& r4) x1 r2.2 hx1 hr2 (by omega)) (fun r5 hr5 => ?_)
  exact z_ok_s hr5

set_option maxHeartbeats 4000000 in
set_option maxRecDepth 100000 in
theorem t_k_Mo_load_26 (W : Nat) (S : z_SS) (t0 : Int64) (q : z_Sg) (hq : iM W S q) (hW : W + 0 ≤ 16) : z_ok (k_Mo_load_26 t0 q) (fun o : Int64 × z_Sg => iM W S o.2) := by
  unfold k_Mo_load_26
  exact z_ok_s hq

set_option maxHeartbeats 4000000 in
set_option maxRecDepth 100000 in
theorem t_f_Mo_load (W : Nat) (S : z_SS) (x1 : Int64) (x3 : Int32) (x4 : Int32) (q : z_Sg) (hx3 : y_in x3 (1) (8)) (hx4 : y_in x4 (0) (1)) (hq : iM W S q) (hW : W + 0 ≤ 16) : z_ok (f_Mo_load x1 x3 x4 q) (fun o : Int64 × z_Sg => iM W S o.2) := by
  unfold f_Mo_load
  refine z_ok_b (t_f_Mo_lookUp W S x1 x3 (0 : Int32) x4 q hx3 (z_w (show y_in (0 : Int32) (0) (0) from ⟨by decide, by decide⟩) (by decide) (by decide)) hx4 hq (by omega)) (fun r1 hr1 => ?_)
  refine z_ok_i (fun c234602 => ?_) (fun c234602 => ?_)
  · have z234603 : y_in (z_gI r1 4) (-1) (-1) := z_w (z_eq1 c234602 (show y_in (-1 : Int32) (-1) (-1) from ⟨by decide, by decide⟩)) (by decide) (by decide)
    refine z_ok_b (t_f_Mo_held W S x3 r1 hx3 hr1.1.1 (by omega)) (fun r3 hr3 => ?_)
    exact t_k_Mo_load_26 W S r3 r1 hr1.1.1 hW
  · have z234604 : y_in (z_gI r1 4) (0) (14) := z_w (z_ne1 c234602 (iM_f4 hr1.1.1) (by decide)) (by decide) (by decide)
    exact t_k_Mo_load_26 W S (0 : Int64) r1 hr1.1.1 hW

set_option maxHeartbeats 4000000 in
set_option maxRecDepth 100000 in
theorem t_k_Mo_pop_32 (W : Nat) (S : z_SS) (x2 : Int64) (q : z_Sg) (hq : iM W S q) (hW : W + 0 ≤ 16) : z_ok (k_Mo_pop_32 x2 q) (fun o : Int64 × z_Sg => iM W S o.2) := by
  unfold k_Mo_pop_32
  exact z_ok_s hq

set_option maxHeartbeats 4000000 in
set_option maxRecDepth 100000 in
theorem t_f_Mo_pop (W : Nat) (S : z_SS) (x1 : Int32) (q : z_Sg) (hx1 : y_in x1 (2) (8)) (hq : iM W S q) (hW : W + 0 ≤ 16) : z_ok (f_Mo_pop x1 q) (fun o : Int64 × z_Sg => iM W S o.2) := by
  unfold f_Mo_pop
  refine z_ok_g (z_nbad (z_w (show y_in (4 : Int32) (4) (4) from ⟨by decide, by decide⟩) (by decide) (Int.le_refl _)) (by decide)) ?_
  refine z_ok_b (t_f_Mo_load W S (z_gM q 0 (4 : Int32).toNatClampNeg) x1 (1 : Int32) q (z_w hx1 (by decide) (by decide)) (z_w (show y_in (1 : Int32) (1) (1) from ⟨by decide, by decide⟩) (by decide) (by decide)) hq (by omega)) (fun r2 hr2 => ?_)
  refine z_ok_i (fun c234605 => ?_) (fun c234605 => ?_)
  · have z234606 : y_in (z_gI r2.2 4) (-1) (-1) := z_w (z_eq1 c234605 (show y_in (-1 : Int32) (-1) (-1) from ⟨by decide, by decide⟩)) (by decide) (by decide)
    refine z_ok_g (z_nbad (z_w (show y_in (4 : Int32) (4) (4) from ⟨by decide, by decide⟩) (by decide) (Int.le_refl _)) (by decide)) ?_
    refine z_ok_g (z_nbad (z_w (show y_in (4 : Int32) (4) (4) from ⟨by decide, by decide⟩) (by decide) (Int.le_refl _)) (by decide)) ?_
    refine z_ok_n (fun q6 eq6 => ?_)
    have hq6 : iM W S q6 := by rw [eq6]; exact (iM_sM0 hr2)
    exact t_k_Mo_pop_32 W S r2.1 q6 hq6 hW
  · have z234607 : y_in (z_gI r2.2 4) (0) (14) := z_w (z_ne1 c234605 (iM_f4 hr2) (by decide)) (by decide) (by decide)
    exact t_k_Mo_pop_32 W S r2.1 r2.2 hr2 hW

set_option maxHeartbeats 4000000 in
set_option maxRecDepth 100000 in
theorem t_k_Mo_returns_66 (W : Nat) (S : z_SS) (q : z_Sg) (hq : iM W z_Z q) (hW : W + 0 ≤ 16) : z_ok (k_Mo_returns_66 q) (fun o : z_Sg => iM W z_Z o) := by
  unfold k_Mo_returns_66
  exact z_ok_s hq

set_option maxHeartbeats 4000000 in
set_option maxRecDepth 100000 in
theorem t_k_Mo_returns_33 (W : Nat) (S : z_SS) (t0 : Int64) (q : z_Sg) (hq : iM W z_Z q) (hW : W + 0 ≤ 16) : z_ok (k_Mo_returns_33 t0 q) (fun o : z_Sg => iM W z_Z o) := by
  unfold k_Mo_returns_33
  refine z_ok_b (t_f_Mo_pop W z_Z (8 : Int32) q (z_w (show y_in (8 : Int32) (8) (8) from ⟨by decide, by decide⟩) (by decide) (by decide)) hq (by omega)) (fun r3 hr3 => ?_)
  refine z_ok_g (z_nbad (z_w (show y_in (4 : Int32) (4) (4) from ⟨by decide, by decide⟩) (by decide) (Int.le_refl _)) (by decide)) ?_
  refine z_ok_g (z_nbad (z_w (show y_in (4 : Int32) (4) (4) from ⟨by decide, by decide⟩) (by decide) (Int.le_refl _)) (by decide)) ?_
  refine z_ok_n (fun q6 eq6 => ?_)
  have hq6 : iM W z_Z q6 := by rw [eq6]; exact (iM_sM0 hr3)
  refine z_ok_i (fun c234608 => ?_) (fun c234608 => ?_)
  · have z234609 : y_in (z_gI q6 4) (-1) (-1) := z_w (z_eq1 c234608 (show y_in (-1 : Int32) (-1) (-1) from ⟨by decide, by decide⟩)) (by decide) (by decide)
    refine z_ok_b (t_f_Mo_jump W z_Z r3.1 q6 hq6 (by omega)) (fun r8 hr8 => ?_)
    exact t_k_Mo_returns_66 W S r8 hr8 hW
  · have z234610 : y_in (z_gI q6 4) (0) (14) := z_w (z_ne1 c234608 (iM_f4 hq6) (by decide)) (by decide) (by decide)
    exact t_k_Mo_returns_66 W S q6 hq6 hW

set_option maxHeartbeats 4000000 in
set_option maxRecDepth 100000 in
theorem t_k_Mo_returns_13 (W : Nat) (S : z_SS) (x1 : Int32) (q : z_Sg) (hx1 : y_in x1 (194) (195)) (hq : iM W S q) (hW : W + 0 ≤ 16) : z_ok (k_Mo_returns_13 x1 q) (fun o : z_Sg => iM W z_Z o) := by
  unfold k_Mo_returns_13
  refine z_ok_i (fun c234611 => ?_) (fun c234611 => ?_)
  · have z234612 : y_in x1 (194) (194) := z_w (z_eq1 c234611 (show y_in (194 : Int32) (194) (194) from ⟨by decide, by decide⟩)) (by decide) (by decide)
    refine z_ok_b (t_f_Mo_number W S (2 : Int32) q (z_w (show y_in (2 : Int32) (2) (2) from ⟨by decide, by decide⟩) (by decide) (by decide)) hq (by omega)) (fun r9 hr9 => ?_)
    refine z_ok_b (t_f_Mo_lowest W z_Z r9.1 (2 : Int32) r9.2 (z_w (show y_in (2 : Int32) (2) (2) from ⟨by decide, by decide⟩) (by decide) (by decide)) hr9 (by omega)) (fun r10 hr10 => ?_)
    exact t_k_Mo_returns_33 W S r10 r9.2 hr9 hW
  · have z234613 : y_in x1 (195) (195) := z_w (z_ne1 c234611 hx1 (by decide)) (by decide) (by decide)
    exact t_k_Mo_returns_33 W S (0 : Int64) q (iM_0 hq) hW

set_option maxHeartbeats 4000000 in
set_option maxRecDepth 100000 in
theorem t_f_Mo_returns (W : Nat) (S : z_SS) (x1 : Int32) (q : z_Sg) (hx1 : y_in x1 (194) (195)) (hq : iM W S q) (hW : W + 0 ≤ 16) : z_ok (f_Mo_returns x1 q) (fun o : z_Sg => iM W z_Z o) := by
  unfold f_Mo_returns
  refine z_ok_i (fun c234614 => ?_) (fun c234614 => ?_)
  · have z234615 : y_in (z_gI q 16) (0) (0) := z_w (z_eq1 c234614 (show y_in (0 : Int32) (0) (0) from ⟨by decide, by decide⟩)) (by decide) (by decide)
    exact t_k_Mo_returns_13 W S x1 q hx1 hq hW
  · have z234616 : y_in (z_gI q 16) (1) (1) := z_w (z_ne1 c234614 (iM_f16 hq) (by decide)) (by decide) (by decide)
    refine z_ok_b (t_f_Mo_refuse W S (6 : Int32) q (z_w (show y_in (6 : Int32) (6) (6) from ⟨by decide, by decide⟩) (by decide) (by decide)) hq (by omega)) (fun r11 hr11 => ?_)
    exact t_k_Mo_returns_13 W S x1 r11 hx1 hr11 hW

set_option maxHeartbeats 4000000 in
set_option maxRecDepth 100000 in
theorem t_k_Mo_moveNumber_17 (W : Nat) (S : z_SS) (x1 : Int32) (q : z_Sg) (hx1 : y_in x1 (1) (8)) (hq : iM W z_Z q) (hW : W + 8 ≤ 16) : z_ok (k_Mo_moveNumber_17 x1 q) (fun o : z_Sg => iM (W + 8) z_Z o) := by
  unfold k_Mo_moveNumber_17
  refine z_ok_b (t_f_Mo_takePlace W z_Z q hq (by omega)) (fun r3 hr3 => ?_)
  refine z_ok_b (t_f_Mo_four W z_Z x1 r3 hx1 hr3 (by omega)) (fun r4 hr4 => ?_)
  refine z_ok_b (t_f_Mo_number W z_Z r4 r3 (z_w hr4 (by decide) (by decide)) hr3 (by omega)) (fun r5 hr5 => ?_)
  refine z_ok_b (t_f_Mo_e W z_Z x1 (1 : Int32) r5.2 hx1 (z_w (show y_in (1 : Int32) (1) (1) from ⟨by decide, by decide⟩) (by decide) (by decide)) hr5 (by omega)) (fun r6 hr6 => ?_)
  refine z_ok_b (t_f_Mo_setE W (x1, true, fun _ _ _ => True) x1 r5.1 r6.2 hx1 hr6 (by omega)) (fun r7 hr7 => ?_)
  exact z_ok_s (iM_0 hr7)

set_option maxHeartbeats 4000000 in
set_option maxRecDepth 100000 in
theorem t_f_Mo_moveNumber (W : Nat) (S : z_SS) (x1 : Int32) (q : z_Sg) (hx1 : y_in x1 (1) (8)) (hq : iM W S q) (hW : W + 8 ≤ 16) : z_ok (f_Mo_moveNumber x1 q) (fun o : z_Sg => iM (W + 8) z_Z o) := by
  unfold f_Mo_moveNumber
  refine z_ok_b (t_f_Mo_takeMod W S q hq (by omega)) (fun r1 hr1 => ?_)
  refine z_ok_i (fun c234617 => ?_) (fun c234617 => ?_)
  · have z234618 : y_in (z_gI r1 8) (0) (0) := z_w (z_eq1 c234617 (show y_in (0 : Int32) (0) (0) from ⟨by decide, by decide⟩)) (by decide) (by decide)
    exact t_k_Mo_moveNumber_17 W S x1 r1 hx1 hr1 hW
  · have z234619 : y_in (z_gI r1 8) (1) (7) := z_w (z_ne1 c234617 (iM_f8 hr1) (by decide)) (by decide) (by decide)
    refine z_ok_b (t_f_Mo_refuse W z_Z (6 : Int32) r1 (z_w (show y_in (6 : Int32) (6) (6) from ⟨by decide, by decide⟩) (by decide) (by decide)) hr1 (by omega)) (fun r8 hr8 => ?_)
    exact t_k_Mo_moveNumber_17 W S x1 r8 hx1 hr8 hW

set_option maxHeartbeats 4000000 in
set_option maxRecDepth 100000 in
theorem t_k_Mo_far_67 (W : Nat) (S : z_SS) (q : z_Sg) (hq : iM (W + 8) z_Z q) (hW : W + 8 ≤ 16) : z_ok (k_Mo_far_67 q) (fun o : z_Sg => iM (W + 8) z_Z o) := by
  unfold k_Mo_far_67
  exact z_ok_s hq

set_option maxHeartbeats 4000000 in
set_option maxRecDepth 100000 in
theorem t_k_Mo_far_52 (W : Nat) (S : z_SS) (x1 : Int32) (x4 : Int64) (q : z_Sg) (hx1 : y_in x1 (232) (235)) (hq : iM W z_Z q) (hW : W + 8 ≤ 16) : z_ok (k_Mo_far_52 x1 x4 q) (fun o : z_Sg => iM (W + 8) z_Z o) := by
  unfold k_Mo_far_52
  refine z_ok_i (fun c234620 => ?_) (fun c234620 => ?_)
  · have z234621 : y_in x1 (232) (232) := z_w (z_eq1 c234620 (show y_in (232 : Int32) (232) (232) from ⟨by decide, by decide⟩)) (by decide) (by decide)
    refine z_ok_b (t_f_Mo_push W z_Z x4 (8 : Int32) q (z_w (show y_in (8 : Int32) (8) (8) from ⟨by decide, by decide⟩) (by decide) (by decide)) hq (by omega)) (fun r7 hr7 => ?_)
    exact t_k_Mo_far_67 W S r7 hr7 hW
  · have z234622 : y_in x1 (233) (235) := z_w (z_ne1 c234620 hx1 (by decide)) (by decide) (by decide)
    exact t_k_Mo_far_67 W S q (iM_w hq (by omega)) hW

set_option maxHeartbeats 4000000 in
set_option maxRecDepth 100000 in
theorem t_k_Mo_far_26 (W : Nat) (S : z_SS) (x1 : Int32) (t1 : Int32) (q : z_Sg) (hx1 : y_in x1 (232) (235)) (ht1 : y_in t1 (1) (4)) (hq : iM W S q) (hW : W + 8 ≤ 16) : z_ok (k_Mo_far_26 x1 t1 q) (fun o : z_Sg => iM (W + 8) z_Z o) := by
  unfold k_Mo_far_26
  refine z_ok_b (t_f_Mo_number W S t1 q (z_w ht1 (by decide) (by decide)) hq (by omega)) (fun r3 hr3 => ?_)
  refine z_ok_n (fun n4 en4 => ?_)
  refine z_ok_i (fun c234623 => ?_) (fun c234623 => ?_)
  · have z234624 : y_in (z_gI r3.2 4) (-1) (-1) := z_w (z_eq1 c234623 (show y_in (-1 : Int32) (-1) (-1) from ⟨by decide, by decide⟩)) (by decide) (by decide)
    refine z_ok_b (t_f_Mo_jump W z_Z (n4 + r3.1) r3.2 hr3 (by omega)) (fun r8 hr8 => ?_)
    exact t_k_Mo_far_52 W S x1 n4 r8 hx1 hr8 hW
  · have z234625 : y_in (z_gI r3.2 4) (0) (14) := z_w (z_ne1 c234623 (iM_f4 hr3) (by decide)) (by decide) (by decide)
    exact t_k_Mo_far_52 W S x1 n4 r3.2 hx1 hr3 hW

set_option maxHeartbeats 4000000 in
set_option maxRecDepth 100000 in
theorem t_k_Mo_far_13 (W : Nat) (S : z_SS) (x1 : Int32) (q : z_Sg) (hx1 : y_in x1 (232) (235)) (hq : iM W S q) (hW : W + 8 ≤ 16) : z_ok (k_Mo_far_13 x1 q) (fun o : z_Sg => iM (W + 8) z_Z o) := by
  unfold k_Mo_far_13
  refine z_ok_i (fun c234626 => ?_) (fun c234626 => ?_)
  · have z234627 : y_in x1 (235) (235) := z_w (z_eq1 c234626 (show y_in (235 : Int32) (235) (235) from ⟨by decide, by decide⟩)) (by decide) (by decide)
    exact t_k_Mo_far_26 W S x1 (1 : Int32) q (z_w z234627 (by decide) (by decide)) (z_w (show y_in (1 : Int32) (1) (1) from ⟨by decide, by decide⟩) (by decide) (by decide)) hq hW
  · have z234628 : y_in x1 (232) (234) := z_w (z_ne2 c234626 hx1 (by decide)) (by decide) (by decide)
    exact t_k_Mo_far_26 W S x1 (4 : Int32) q (z_w z234628 (by decide) (by decide)) (z_w (show y_in (4 : Int32) (4) (4) from ⟨by decide, by decide⟩) (by decide) (by decide)) hq hW

set_option maxHeartbeats 4000000 in
set_option maxRecDepth 100000 in
theorem t_f_Mo_far (W : Nat) (S : z_SS) (x1 : Int32) (q : z_Sg) (hx1 : y_in x1 (232) (235)) (hq : iM W S q) (hW : W + 8 ≤ 16) : z_ok (f_Mo_far x1 q) (fun o : z_Sg => iM (W + 8) z_Z o) := by
  unfold f_Mo_far
  refine z_ok_i (fun c234629 => ?_) (fun c234629 => ?_)
  · have z234630 : y_in (z_gI q 16) (0) (0) := z_w (z_eq1 c234629 (show y_in (0 : Int32) (0) (0) from ⟨by decide, by decide⟩)) (by decide) (by decide)
    exact t_k_Mo_far_13 W S x1 q hx1 hq hW
  · have z234631 : y_in (z_gI q 16) (1) (1) := z_w (z_ne1 c234629 (iM_f16 hq) (by decide)) (by decide) (by decide)
    refine z_ok_b (t_f_Mo_refuse W S (6 : Int32) q (z_w (show y_in (6 : Int32) (6) (6) from ⟨by decide, by decide⟩) (by decide) (by decide)) hq (by omega)) (fun r9 hr9 => ?_)
    exact t_k_Mo_far_13 W S x1 r9 hx1 hr9 hW

set_option maxHeartbeats 4000000 in
set_option maxRecDepth 100000 in
theorem t_k_Mo_leaveFrame_13 (W : Nat) (S : z_SS) (q : z_Sg) (hq : iM W S q) (hW : W + 0 ≤ 16) : z_ok (k_Mo_leaveFrame_13 q) (fun o : z_Sg => iM W S o) := by
  unfold k_Mo_leaveFrame_13
  refine z_ok_g (z_nbad (z_w (show y_in (5 : Int32) (5) (5) from ⟨by decide, by decide⟩) (by decide) (Int.le_refl _)) (by decide)) ?_
  refine z_ok_g (z_nbad (z_w (show y_in (4 : Int32) (4) (4) from ⟨by decide, by decide⟩) (by decide) (Int.le_refl _)) (by decide)) ?_
  refine z_ok_n (fun q4 eq4 => ?_)
  have hq4 : iM W S q4 := by rw [eq4]; exact (iM_sM0 hq)
  refine z_ok_b (t_f_Mo_pop W S (8 : Int32) q4 (z_w (show y_in (8 : Int32) (8) (8) from ⟨by decide, by decide⟩) (by decide) (by decide)) hq4 (by omega)) (fun r5 hr5 => ?_)
  refine z_ok_g (z_nbad (z_w (show y_in (5 : Int32) (5) (5) from ⟨by decide, by decide⟩) (by decide) (Int.le_refl _)) (by decide)) ?_
  refine z_ok_n (fun q7 eq7 => ?_)
  have hq7 : iM W S q7 := by rw [eq7]; exact (iM_sM0 hr5)
  exact z_ok_s hq7

set_option maxHeartbeats 4000000 in
set_option maxRecDepth 100000 in
theorem t_f_Mo_leaveFrame (W : Nat) (S : z_SS) (q : z_Sg) (hq : iM W S q) (hW : W + 0 ≤ 16) : z_ok (f_Mo_leaveFrame q) (fun o : z_Sg => iM W S o) := by
  unfold f_Mo_leaveFrame
  refine z_ok_i (fun c234632 => ?_) (fun c234632 => ?_)
  · have z234633 : y_in (z_gI q 16) (0) (0) := z_w (z_eq1 c234632 (show y_in (0 : Int32) (0) (0) from ⟨by decide, by decide⟩)) (by decide) (by decide)
    exact t_k_Mo_leaveFrame_13 W S q hq hW
  · have z234634 : y_in (z_gI q 16) (1) (1) := z_w (z_ne1 c234632 (iM_f16 hq) (by decide)) (by decide) (by decide)
    refine z_ok_b (t_f_Mo_refuse W S (6 : Int32) q (z_w (show y_in (6 : Int32) (6) (6) from ⟨by decide, by decide⟩) (by decide) (by decide)) hq (by omega)) (fun r8 hr8 => ?_)
    exact t_k_Mo_leaveFrame_13 W S r8 hr8 hW

def z_ssz (a b : Int32) : Int32 := if b = 0 then 8 else if (a &&& 8) = 0 then 2 else 8
theorem z_ss (q : z_Sg) : f_Mo_stackSize q = some (z_ssz (z_gI q 10) (z_gI q 16)) := by
  unfold f_Mo_stackSize k_Mo_stackSize_21 k_Mo_stackSize_23 z_ssz
  by_cases h : z_gI q 16 = 0
  · rw [if_pos h, if_pos h]
  · rw [if_neg h, if_neg h]
    by_cases h2 : (z_gI q 10 &&& 8) = 0
    · rw [if_pos h2, if_pos h2]
    · rw [if_neg h2, if_neg h2]
theorem z_ssi (a b : Int32) : y_in (z_ssz a b) 2 8 := by
  unfold z_ssz
  split
  · exact ⟨by decide, by decide⟩
  · split
    · exact ⟨by decide, by decide⟩
    · exact ⟨by decide, by decide⟩
theorem t_ss (q : z_Sg) : z_ok (f_Mo_stackSize q) (fun o : Int32 => o = z_ssz (z_gI q 10) (z_gI q 16)) := ⟨_, z_ss q, rfl⟩
set_option maxHeartbeats 4000000 in
set_option maxRecDepth 100000 in
theorem t_k_Mo_popOperand_17 (W : Nat) (S : z_SS) (q : z_Sg) (hq : iM W z_Z q) (hW : W + 8 ≤ 16) : z_ok (k_Mo_popOperand_17 q) (fun o : z_Sg => iM (W + 8) z_Z o) := by
  unfold k_Mo_popOperand_17
  refine z_ok_b (t_f_Mo_takePlace W z_Z q hq (by omega)) (fun r3 hr3 => ?_)
  refine z_ok_n (fun q4 e4 => ?_)
  have h4 : iM W z_Z q4 := by rw [e4]; exact iM_sL hr3
  refine z_ok_b (t_f_Mo_stackSize W z_Z q4 h4 (by omega)) (fun r5 hr5 => ?_)
  refine z_ok_b (t_f_Mo_pop W z_Z r5 q4 hr5 h4 (by omega)) (fun r6 hr6 => ?_)
  refine z_ok_b (t_ss r6.2) (fun r7 hr7 => ?_)
  have i7 : y_in r7 2 8 := by rw [hr7]; exact z_ssi _ _
  have hS : iM W ((0 : Int32), true, fun _ a b => a = z_gI r6.2 10 ∧ b = z_gI r6.2 16) r6.2 := iM_S hr6 ⟨(z_k0 _).1, rfl, rfl⟩
  refine z_ok_b (t_f_Mo_e W _ r7 1 r6.2 (z_w i7 (by decide) (by decide)) (z_w (show y_in (1 : Int32) (1) (1) from ⟨by decide, by decide⟩) (by decide) (by decide)) hS (by omega)) (fun r8 hr8 => ?_)
  obtain ⟨k1, k2⟩ := (iM_k hr8).2
  refine z_ok_b (t_ss r8.2) (fun r9 hr9 => ?_)
  have e9 : r7 = r9 := by rw [hr9, hr7, k1, k2]
  refine z_ok_b (t_setE W _ r9 r6.1 r8.2 (by rw [← e9]; exact z_w i7 (by decide) (by decide)) hr8 e9 hW) (fun r10 hr10 => ?_)
  exact z_ok_s (iM_0 hr10)

set_option maxHeartbeats 4000000 in
set_option maxRecDepth 100000 in
theorem t_f_Mo_popOperand (W : Nat) (S : z_SS) (q : z_Sg) (hq : iM W S q) (hW : W + 8 ≤ 16) : z_ok (f_Mo_popOperand q) (fun o : z_Sg => iM (W + 8) z_Z o) := by
  unfold f_Mo_popOperand
  refine z_ok_b (t_f_Mo_takeMod W S q hq (by omega)) (fun r1 hr1 => ?_)
  refine z_ok_i (fun c234635 => ?_) (fun c234635 => ?_)
  · have z234636 : y_in (z_gI r1 8) (0) (0) := z_w (z_eq1 c234635 (show y_in (0 : Int32) (0) (0) from ⟨by decide, by decide⟩)) (by decide) (by decide)
    exact t_k_Mo_popOperand_17 W S r1 hr1 hW
  · have z234637 : y_in (z_gI r1 8) (1) (7) := z_w (z_ne1 c234635 (iM_f8 hr1) (by decide)) (by decide) (by decide)
    refine z_ok_b (t_f_Mo_refuse W z_Z (6 : Int32) r1 (z_w (show y_in (6 : Int32) (6) (6) from ⟨by decide, by decide⟩) (by decide) (by decide)) hr1 (by omega)) (fun r11 hr11 => ?_)
    exact t_k_Mo_popOperand_17 W S r11 hr11 hW

set_option maxHeartbeats 4000000 in
set_option maxRecDepth 100000 in
theorem t_k_Mo_address_56 (W : Nat) (S : z_SS) (q : z_Sg) (hq : iM W z_Z q) (hW : W + 0 ≤ 16) : z_ok (k_Mo_address_56 q) (fun o : z_Sg => iM W z_Z o) := by
  unfold k_Mo_address_56
  exact z_ok_s hq

set_option maxHeartbeats 4000000 in
set_option maxRecDepth 100000 in
theorem t_k_Mo_address_18 (W : Nat) (S : z_SS) (q : z_Sg) (hq : iM W z_Z q) (hW : W + 0 ≤ 16) : z_ok (k_Mo_address_18 q) (fun o : z_Sg => iM W z_Z o) := by
  unfold k_Mo_address_18
  refine z_ok_b (t_f_Mo_takePlace W z_Z q hq (by omega)) (fun r3 hr3 => ?_)
  refine z_ok_n (fun q4 eq4 => ?_)
  have hq4 : iM W z_Z q4 := by rw [eq4]; exact (iM_sL hr3)
  refine z_ok_i (fun c234638 => ?_) (fun c234638 => ?_)
  · have z234639 : y_in (z_gI q4 4) (-1) (-1) := z_w (z_eq1 c234638 (show y_in (-1 : Int32) (-1) (-1) from ⟨by decide, by decide⟩)) (by decide) (by decide)
    refine z_ok_b (t_f_Mo_wide W z_Z q4 hq4 (by omega)) (fun r6 hr6 => ?_)
    refine z_ok_b (t_f_Mo_place W z_Z q4 hq4 (by omega)) (fun r7 hr7 => ?_)
    refine z_ok_b (t_f_Mo_setG W z_Z r6 r7 q4 (z_w hr6 (by decide) (by decide)) hq4 (by omega)) (fun r8 hr8 => ?_)
    exact t_k_Mo_address_56 W S r8 hr8 hW
  · have z234640 : y_in (z_gI q4 4) (0) (14) := z_w (z_ne1 c234638 (iM_f4 hq4) (by decide)) (by decide) (by decide)
    exact t_k_Mo_address_56 W S q4 hq4 hW

set_option maxHeartbeats 4000000 in
set_option maxRecDepth 100000 in
theorem t_f_Mo_address (W : Nat) (S : z_SS) (q : z_Sg) (hq : iM W S q) (hW : W + 0 ≤ 16) : z_ok (f_Mo_address q) (fun o : z_Sg => iM W z_Z o) := by
  unfold f_Mo_address
  refine z_ok_b (t_f_Mo_takeMod W S q hq (by omega)) (fun r1 hr1 => ?_)
  refine z_ok_i (fun c234641 => ?_) (fun c234641 => ?_)
  · have z234642 : y_in (z_gI r1 7) (3) (3) := z_w (z_eq1 c234641 (show y_in (3 : Int32) (3) (3) from ⟨by decide, by decide⟩)) (by decide) (by decide)
    refine z_ok_b (t_f_Mo_refuse W z_Z (6 : Int32) r1 (z_w (show y_in (6 : Int32) (6) (6) from ⟨by decide, by decide⟩) (by decide) (by decide)) hr1 (by omega)) (fun r9 hr9 => ?_)
    exact t_k_Mo_address_18 W S r9 hr9 hW
  · have z234643 : y_in (z_gI r1 7) (0) (2) := z_w (z_ne2 c234641 (iM_f7 hr1) (by decide)) (by decide) (by decide)
    exact t_k_Mo_address_18 W S r1 hr1 hW

set_option maxHeartbeats 4000000 in
set_option maxRecDepth 100000 in
theorem t_f_Mo_extend (W : Nat) (S : z_SS) (x1 : Int32) (x2 : Int32) (q : z_Sg) (hx1 : y_in x1 (2) (8)) (hx2 : y_in x2 (1) (4)) (hq : iM W S q) (hW : W + 0 ≤ 16) : z_ok (f_Mo_extend x1 x2 q) (fun o : z_Sg => iM W z_Z o) := by
  unfold f_Mo_extend
  refine z_ok_b (t_f_Mo_takeOperand W S q hq (by omega)) (fun r1 hr1 => ?_)
  refine z_ok_b (t_f_Mo_e W z_Z x2 (0 : Int32) r1 (z_w hx2 (by decide) (by decide)) (z_w (show y_in (0 : Int32) (0) (0) from ⟨by decide, by decide⟩) (by decide) (by decide)) hr1 (by omega)) (fun r2 hr2 => ?_)
  refine z_ok_b (t_f_Mo_extended W (x2, true, fun _ _ _ => True) r2.1 x2 r2.2 (z_w hx2 (by decide) (by decide)) hr2 (by omega)) (fun r3 hr3 => ?_)
  refine z_ok_b (t_f_Mo_setG W (x2, true, fun _ _ _ => True) x1 r3 r2.2 (z_w hx1 (by decide) (by decide)) hr2 (by omega)) (fun r4 hr4 => ?_)
  exact z_ok_s (iM_0 hr4)

set_option maxHeartbeats 4000000 in
set_option maxRecDepth 100000 in
theorem t_k_Mo_others_261 (W : Nat) (S : z_SS) (q : z_Sg) (hq : iM (W + 8) z_Z q) (hW : W + 8 ≤ 16) : z_ok (k_Mo_others_261 q) (fun o : z_Sg => iM (W + 8) z_Z o) := by
  unfold k_Mo_others_261
  exact z_ok_s hq

set_option maxHeartbeats 4000000 in
set_option maxRecDepth 100000 in
theorem t_k_Mo_others_42 (W : Nat) (S : z_SS) (x1 : Int32) (q : z_Sg) (hx1 : y_in x1 (104) (106)) (hq : iM W S q) (hW : W + 8 ≤ 16) : z_ok (k_Mo_others_42 x1 q) (fun o : z_Sg => iM (W + 8) z_Z o) := by
  unfold k_Mo_others_42
  refine z_ok_b (t_f_Mo_pushNumber W S x1 q hx1 hq (by omega)) (fun r3 hr3 => ?_)
  exact t_k_Mo_others_261 W S r3 hr3 hW

set_option maxHeartbeats 4000000 in
set_option maxRecDepth 100000 in
theorem t_k_Mo_others_62 (W : Nat) (S : z_SS) (x1 : Int32) (q : z_Sg) (hx1 : y_in x1 (105) (107)) (hq : iM W S q) (hW : W + 8 ≤ 16) : z_ok (k_Mo_others_62 x1 q) (fun o : z_Sg => iM (W + 8) z_Z o) := by
  unfold k_Mo_others_62
  refine z_ok_b (t_f_Mo_product W S x1 q (z_w hx1 (by decide) (by decide)) hq (by omega)) (fun r6 hr6 => ?_)
  exact t_k_Mo_others_261 W S r6 (iM_w hr6 (by omega)) hW

set_option maxHeartbeats 4000000 in
set_option maxRecDepth 100000 in
theorem t_k_Mo_others_160 (W : Nat) (S : z_SS) (x2 : Int32) (q : z_Sg) (hx2 : y_in x2 (1) (8)) (hq : iM W S q) (hW : W + 8 ≤ 16) : z_ok (k_Mo_others_160 x2 q) (fun o : z_Sg => iM (W + 8) z_Z o) := by
  unfold k_Mo_others_160
  refine z_ok_b (t_f_Mo_testNumber W S x2 q hx2 hq (by omega)) (fun r13 hr13 => ?_)
  exact t_k_Mo_others_261 W S r13 (iM_w hr13 (by omega)) hW

set_option maxHeartbeats 4000000 in
set_option maxRecDepth 100000 in
theorem t_k_Mo_others_182 (W : Nat) (S : z_SS) (x1 : Int32) (q : z_Sg) (hx1 : y_in x1 (194) (195)) (hq : iM W S q) (hW : W + 8 ≤ 16) : z_ok (k_Mo_others_182 x1 q) (fun o : z_Sg => iM (W + 8) z_Z o) := by
  unfold k_Mo_others_182
  refine z_ok_b (t_f_Mo_returns W S x1 q hx1 hq (by omega)) (fun r16 hr16 => ?_)
  exact t_k_Mo_others_261 W S r16 (iM_w hr16 (by omega)) hW

set_option maxHeartbeats 4000000 in
set_option maxRecDepth 100000 in
theorem t_k_Mo_others_204 (W : Nat) (S : z_SS) (x2 : Int32) (q : z_Sg) (hx2 : y_in x2 (1) (8)) (hq : iM W S q) (hW : W + 8 ≤ 16) : z_ok (k_Mo_others_204 x2 q) (fun o : z_Sg => iM (W + 8) z_Z o) := by
  unfold k_Mo_others_204
  refine z_ok_b (t_f_Mo_moveNumber W S x2 q hx2 hq (by omega)) (fun r19 hr19 => ?_)
  exact t_k_Mo_others_261 W S r19 hr19 hW

set_option maxHeartbeats 4000000 in
set_option maxRecDepth 100000 in
theorem t_k_Mo_others_247 (W : Nat) (S : z_SS) (x1 : Int32) (q : z_Sg) (hx1 : y_in x1 (232) (235)) (hq : iM W S q) (hW : W + 8 ≤ 16) : z_ok (k_Mo_others_247 x1 q) (fun o : z_Sg => iM (W + 8) z_Z o) := by
  unfold k_Mo_others_247
  refine z_ok_b (t_f_Mo_far W S x1 q hx1 hq (by omega)) (fun r23 hr23 => ?_)
  exact t_k_Mo_others_261 W S r23 hr23 hW

set_option maxHeartbeats 4000000 in
set_option maxRecDepth 100000 in
theorem t_k_Mo_others_24 (W : Nat) (S : z_SS) (t1 : Int32) (t2 : Int32) (q : z_Sg) (ht1 : y_in t1 (2) (8)) (ht2 : y_in t2 (2) (4)) (hq : iM W S q) (hW : W + 8 ≤ 16) : z_ok (k_Mo_others_24 t1 t2 q) (fun o : z_Sg => iM (W + 8) z_Z o) := by
  unfold k_Mo_others_24
  refine z_ok_b (t_f_Mo_extend W S t1 t2 q ht1 (z_w ht2 (by decide) (by decide)) hq (by omega)) (fun r39 hr39 => ?_)
  exact t_k_Mo_others_261 W S r39 (iM_w hr39 (by omega)) hW

set_option maxHeartbeats 4000000 in
set_option maxRecDepth 100000 in
theorem t_f_Mo_others (W : Nat) (S : z_SS) (x1 : Int32) (x2 : Int32) (q : z_Sg) (hx1 : y_in x1 (64) (254)) (hx2 : y_in x2 (1) (8)) (hq : iM W S q) (hW : W + 8 ≤ 16) : z_ok (f_Mo_others x1 x2 q) (fun o : z_Sg => iM (W + 8) z_Z o) := by
  unfold f_Mo_others
  refine z_ok_i (fun c234644 => ?_) (fun c234644 => ?_)
  · have z234645 : y_in x1 (99) (99) := z_w (z_eq1 c234644 (show y_in (99 : Int32) (99) (99) from ⟨by decide, by decide⟩)) (by decide) (by decide)
    refine z_ok_b (t_f_Mo_wide W S q hq (by omega)) (fun r36 hr36 => ?_)
    refine z_ok_b (t_f_Mo_wide W S q hq (by omega)) (fun r37 hr37 => ?_)
    refine z_ok_i (fun c234646 => ?_) (fun c234646 => ?_)
    · have z234647 : y_in r37 (2) (2) := z_w (z_eq1 c234646 (show y_in (2 : Int32) (2) (2) from ⟨by decide, by decide⟩)) (by decide) (by decide)
      exact t_k_Mo_others_24 W S r36 (2 : Int32) q hr36 (z_w (show y_in (2 : Int32) (2) (2) from ⟨by decide, by decide⟩) (by decide) (by decide)) hq hW
    · have z234648 : y_in r37 (3) (8) := z_w (z_ne1 c234646 hr37 (by decide)) (by decide) (by decide)
      exact t_k_Mo_others_24 W S r36 (4 : Int32) q hr36 (z_w (show y_in (4 : Int32) (4) (4) from ⟨by decide, by decide⟩) (by decide) (by decide)) hq hW
  · refine z_ok_i (fun c234649 => ?_) (fun c234649 => ?_)
    · have z234650 : y_in x1 (104) (104) := z_w (z_eq1 c234649 (show y_in (104 : Int32) (104) (104) from ⟨by decide, by decide⟩)) (by decide) (by decide)
      exact t_k_Mo_others_42 W S x1 q (z_w z234650 (by decide) (by decide)) hq hW
    · refine z_ok_i (fun c234651 => ?_) (fun c234651 => ?_)
      · have z234652 : y_in x1 (106) (106) := z_w (z_eq1 c234651 (show y_in (106 : Int32) (106) (106) from ⟨by decide, by decide⟩)) (by decide) (by decide)
        exact t_k_Mo_others_42 W S x1 q (z_w z234652 (by decide) (by decide)) hq hW
      · refine z_ok_i (fun c234653 => ?_) (fun c234653 => ?_)
        · have z234654 : y_in x1 (105) (105) := z_w (z_eq1 c234653 (show y_in (105 : Int32) (105) (105) from ⟨by decide, by decide⟩)) (by decide) (by decide)
          exact t_k_Mo_others_62 W S x1 q (z_w z234654 (by decide) (by decide)) hq hW
        · refine z_ok_i (fun c234655 => ?_) (fun c234655 => ?_)
          · have z234656 : y_in x1 (107) (107) := z_w (z_eq1 c234655 (show y_in (107 : Int32) (107) (107) from ⟨by decide, by decide⟩)) (by decide) (by decide)
            exact t_k_Mo_others_62 W S x1 q (z_w z234656 (by decide) (by decide)) hq hW
          · refine z_ok_i (fun c234657 => ?_) (fun c234657 => ?_)
            · have z234658 : y_in x1 (141) (141) := z_w (z_eq1 c234657 (show y_in (141 : Int32) (141) (141) from ⟨by decide, by decide⟩)) (by decide) (by decide)
              refine z_ok_b (t_f_Mo_address W S q hq (by omega)) (fun r35 hr35 => ?_)
              exact t_k_Mo_others_261 W S r35 (iM_w hr35 (by omega)) hW
            · refine z_ok_i (fun c234659 => ?_) (fun c234659 => ?_)
              · have z234660 : y_in x1 (143) (143) := z_w (z_eq1 c234659 (show y_in (143 : Int32) (143) (143) from ⟨by decide, by decide⟩)) (by decide) (by decide)
                refine z_ok_b (t_f_Mo_popOperand W S q hq (by omega)) (fun r34 hr34 => ?_)
                exact t_k_Mo_others_261 W S r34 hr34 hW
              · refine z_ok_i (fun c234661 => ?_) (fun c234661 => ?_)
                · have z234662 : y_in x1 (156) (156) := z_w (z_eq1 c234661 (show y_in (156 : Int32) (156) (156) from ⟨by decide, by decide⟩)) (by decide) (by decide)
                  refine z_ok_b (t_f_Mo_flags W S q hq (by omega)) (fun r31 hr31 => ?_)
                  refine z_ok_b (t_f_Mo_stackSize W S q hq (by omega)) (fun r32 hr32 => ?_)
                  refine z_ok_b (t_f_Mo_push W S (r31 ||| (2 : Int64)) r32 q hr32 hq (by omega)) (fun r33 hr33 => ?_)
                  exact t_k_Mo_others_261 W S r33 (iM_0 hr33) hW
                · refine z_ok_i (fun c234663 => ?_) (fun c234663 => ?_)
                  · have z234664 : y_in x1 (157) (157) := z_w (z_eq1 c234663 (show y_in (157 : Int32) (157) (157) from ⟨by decide, by decide⟩)) (by decide) (by decide)
                    refine z_ok_b (t_f_Mo_stackSize W S q hq (by omega)) (fun r28 hr28 => ?_)
                    refine z_ok_b (t_f_Mo_pop W S r28 q hr28 hq (by omega)) (fun r29 hr29 => ?_)
                    refine z_ok_b (t_f_Mo_setFlags W S r29.1 r29.2 hr29 (by omega)) (fun r30 hr30 => ?_)
                    exact t_k_Mo_others_261 W S r30 (iM_w (iM_0 hr30) (by omega)) hW
                  · refine z_ok_i (fun c234665 => ?_) (fun c234665 => ?_)
                    · have z234666 : y_in x1 (168) (168) := z_w (z_eq1 c234665 (show y_in (168 : Int32) (168) (168) from ⟨by decide, by decide⟩)) (by decide) (by decide)
                      exact t_k_Mo_others_160 W S x2 q hx2 hq hW
                    · refine z_ok_i (fun c234667 => ?_) (fun c234667 => ?_)
                      · have z234668 : y_in x1 (169) (169) := z_w (z_eq1 c234667 (show y_in (169 : Int32) (169) (169) from ⟨by decide, by decide⟩)) (by decide) (by decide)
                        exact t_k_Mo_others_160 W S x2 q hx2 hq hW
                      · refine z_ok_i (fun c234669 => ?_) (fun c234669 => ?_)
                        · have z234670 : y_in x1 (194) (194) := z_w (z_eq1 c234669 (show y_in (194 : Int32) (194) (194) from ⟨by decide, by decide⟩)) (by decide) (by decide)
                          exact t_k_Mo_others_182 W S x1 q (z_w z234670 (by decide) (by decide)) hq hW
                        · refine z_ok_i (fun c234671 => ?_) (fun c234671 => ?_)
                          · have z234672 : y_in x1 (195) (195) := z_w (z_eq1 c234671 (show y_in (195 : Int32) (195) (195) from ⟨by decide, by decide⟩)) (by decide) (by decide)
                            exact t_k_Mo_others_182 W S x1 q (z_w z234672 (by decide) (by decide)) hq hW
                          · refine z_ok_i (fun c234673 => ?_) (fun c234673 => ?_)
                            · have z234674 : y_in x1 (198) (198) := z_w (z_eq1 c234673 (show y_in (198 : Int32) (198) (198) from ⟨by decide, by decide⟩)) (by decide) (by decide)
                              exact t_k_Mo_others_204 W S x2 q hx2 hq hW
                            · refine z_ok_i (fun c234675 => ?_) (fun c234675 => ?_)
                              · have z234676 : y_in x1 (199) (199) := z_w (z_eq1 c234675 (show y_in (199 : Int32) (199) (199) from ⟨by decide, by decide⟩)) (by decide) (by decide)
                                exact t_k_Mo_others_204 W S x2 q hx2 hq hW
                              · refine z_ok_i (fun c234677 => ?_) (fun c234677 => ?_)
                                · have z234678 : y_in x1 (201) (201) := z_w (z_eq1 c234677 (show y_in (201 : Int32) (201) (201) from ⟨by decide, by decide⟩)) (by decide) (by decide)
                                  refine z_ok_b (t_f_Mo_leaveFrame W S q hq (by omega)) (fun r27 hr27 => ?_)
                                  exact t_k_Mo_others_261 W S r27 (iM_w (iM_0 hr27) (by omega)) hW
                                · refine z_ok_i (fun c234679 => ?_) (fun c234679 => ?_)
                                  · have z234680 : y_in x1 (232) (232) := z_w (z_eq1 c234679 (show y_in (232 : Int32) (232) (232) from ⟨by decide, by decide⟩)) (by decide) (by decide)
                                    exact t_k_Mo_others_247 W S x1 q (z_w z234680 (by decide) (by decide)) hq hW
                                  · refine z_ok_i (fun c234681 => ?_) (fun c234681 => ?_)
                                    · have z234682 : y_in x1 (233) (233) := z_w (z_eq1 c234681 (show y_in (233 : Int32) (233) (233) from ⟨by decide, by decide⟩)) (by decide) (by decide)
                                      exact t_k_Mo_others_247 W S x1 q (z_w z234682 (by decide) (by decide)) hq hW
                                    · refine z_ok_i (fun c234683 => ?_) (fun c234683 => ?_)
                                      · have z234684 : y_in x1 (235) (235) := z_w (z_eq1 c234683 (show y_in (235 : Int32) (235) (235) from ⟨by decide, by decide⟩)) (by decide) (by decide)
                                        exact t_k_Mo_others_247 W S x1 q (z_w z234684 (by decide) (by decide)) hq hW
                                      · refine z_ok_b (t_f_Mo_refuse W S (6 : Int32) q (z_w (show y_in (6 : Int32) (6) (6) from ⟨by decide, by decide⟩) (by decide) (by decide)) hq (by omega)) (fun r26 hr26 => ?_)
                                        exact t_k_Mo_others_261 W S r26 (iM_w (iM_0 hr26) (by omega)) hW

set_option maxHeartbeats 4000000 in
set_option maxRecDepth 100000 in
theorem t_k_Mo_loop_131 (W : Nat) (S : z_SS) (q : z_Sg) (hq : iM W z_Z q) (hW : W + 0 ≤ 16) : z_ok (k_Mo_loop_131 q) (fun o : z_Sg => iM W z_Z o) := by
  unfold k_Mo_loop_131
  exact z_ok_s hq

set_option maxHeartbeats 4000000 in
set_option maxRecDepth 100000 in
theorem t_k_Mo_loop_106 (W : Nat) (S : z_SS) (x2 : Int64) (t0 : Int32) (q : z_Sg) (ht0 : y_in t0 (0) (1)) (hq : iM W z_Z q) (hW : W + 0 ≤ 16) : z_ok (k_Mo_loop_106 x2 t0 q) (fun o : z_Sg => iM W z_Z o) := by
  unfold k_Mo_loop_106
  refine z_ok_i (fun c234685 => ?_) (fun c234685 => ?_)
  · have z234686 : y_in t0 (0) (0) := z_w (z_eq1 c234685 (show y_in (0 : Int32) (0) (0) from ⟨by decide, by decide⟩)) (by decide) (by decide)
    exact t_k_Mo_loop_131 W S q hq hW
  · have z234687 : y_in t0 (1) (1) := z_w (z_ne1 c234685 ht0 (by decide)) (by decide) (by decide)
    refine z_ok_i (fun c234688 => ?_) (fun c234688 => ?_)
    · have z234689 : y_in (z_gI q 4) (-1) (-1) := z_w (z_eq1 c234688 (show y_in (-1 : Int32) (-1) (-1) from ⟨by decide, by decide⟩)) (by decide) (by decide)
      refine z_ok_b (t_f_Mo_jump W z_Z ((z_gL q 7) + x2) q hq (by omega)) (fun r9 hr9 => ?_)
      exact t_k_Mo_loop_131 W S r9 hr9 hW
    · have z234690 : y_in (z_gI q 4) (0) (14) := z_w (z_ne1 c234688 (iM_f4 hq) (by decide)) (by decide) (by decide)
      exact t_k_Mo_loop_131 W S q hq hW

set_option maxHeartbeats 4000000 in
set_option maxRecDepth 100000 in
theorem t_k_Mo_loop_105 (W : Nat) (S : z_SS) (x2 : Int64) (q : z_Sg) (hq : iM W z_Z q) (hW : W + 0 ≤ 16) : z_ok (k_Mo_loop_105 x2 q) (fun o : z_Sg => iM W z_Z o) := by
  unfold k_Mo_loop_105
  exact t_k_Mo_loop_106 W S x2 (0 : Int32) q (z_w (show y_in (0 : Int32) (0) (0) from ⟨by decide, by decide⟩) (by decide) (by decide)) hq hW

set_option maxHeartbeats 4000000 in
set_option maxRecDepth 100000 in
theorem t_k_Mo_loop_101 (W : Nat) (S : z_SS) (x2 : Int64) (q : z_Sg) (hq : iM W z_Z q) (hW : W + 0 ≤ 16) : z_ok (k_Mo_loop_101 x2 q) (fun o : z_Sg => iM W z_Z o) := by
  unfold k_Mo_loop_101
  exact t_k_Mo_loop_106 W S x2 (1 : Int32) q (z_w (show y_in (1 : Int32) (1) (1) from ⟨by decide, by decide⟩) (by decide) (by decide)) hq hW

set_option maxHeartbeats 4000000 in
set_option maxRecDepth 100000 in
theorem t_k_Mo_loop_98 (W : Nat) (S : z_SS) (x2 : Int64) (t0 : Int32) (t1 : Int32) (q : z_Sg) (ht0 : y_in t0 (0) (1)) (ht1 : y_in t1 (0) (1)) (hq : iM W z_Z q) (hW : W + 0 ≤ 16) : z_ok (k_Mo_loop_98 x2 t0 t1 q) (fun o : z_Sg => iM W z_Z o) := by
  unfold k_Mo_loop_98
  refine z_ok_i (fun c234691 => ?_) (fun c234691 => ?_)
  · exact t_k_Mo_loop_101 W S x2 q hq hW
  · exact t_k_Mo_loop_105 W S x2 q hq hW

set_option maxHeartbeats 4000000 in
set_option maxRecDepth 100000 in
theorem t_k_Mo_loop_36 (W : Nat) (S : z_SS) (x1 : Int32) (x2 : Int64) (q : z_Sg) (hx1 : y_in x1 (224) (227)) (hq : iM W z_Z q) (hW : W + 0 ≤ 16) : z_ok (k_Mo_loop_36 x1 x2 q) (fun o : z_Sg => iM W z_Z o) := by
  unfold k_Mo_loop_36
  refine z_ok_i (fun c234692 => ?_) (fun c234692 => ?_)
  · have z234693 : y_in x1 (227) (227) := z_w (z_eq1 c234692 (show y_in (227 : Int32) (227) (227) from ⟨by decide, by decide⟩)) (by decide) (by decide)
    refine z_ok_g (z_nbad (z_w (show y_in (1 : Int32) (1) (1) from ⟨by decide, by decide⟩) (by decide) (Int.le_refl _)) (by decide)) ?_
    refine z_ok_i (fun c234694 => ?_) (fun c234694 => ?_)
    · exact t_k_Mo_loop_106 W S x2 (1 : Int32) q (z_w (show y_in (1 : Int32) (1) (1) from ⟨by decide, by decide⟩) (by decide) (by decide)) hq hW
    · exact t_k_Mo_loop_106 W S x2 (0 : Int32) q (z_w (show y_in (0 : Int32) (0) (0) from ⟨by decide, by decide⟩) (by decide) (by decide)) hq hW
  · have z234695 : y_in x1 (224) (226) := z_w (z_ne2 c234692 hx1 (by decide)) (by decide) (by decide)
    refine z_ok_g (z_nbad (z_w (show y_in (1 : Int32) (1) (1) from ⟨by decide, by decide⟩) (by decide) (Int.le_refl _)) (by decide)) ?_
    refine z_ok_i (fun c234696 => ?_) (fun c234696 => ?_)
    · exact t_k_Mo_loop_105 W S x2 q hq hW
    · refine z_ok_i (fun c234697 => ?_) (fun c234697 => ?_)
      · have z234698 : y_in x1 (226) (226) := z_w (z_eq1 c234697 (show y_in (226 : Int32) (226) (226) from ⟨by decide, by decide⟩)) (by decide) (by decide)
        exact t_k_Mo_loop_101 W S x2 q hq hW
      · have z234699 : y_in x1 (224) (225) := z_w (z_ne2 c234697 z234695 (by decide)) (by decide) (by decide)
        refine z_ok_g (z_nbad (z_w (show y_in (3 : Int32) (3) (3) from ⟨by decide, by decide⟩) (by decide) (Int.le_refl _)) (by decide)) ?_
        refine z_ok_i (fun c234700 => ?_) (fun c234700 => ?_)
        · have z234701 : y_in x1 (225) (225) := z_w (z_eq1 c234700 (show y_in (225 : Int32) (225) (225) from ⟨by decide, by decide⟩)) (by decide) (by decide)
          exact t_k_Mo_loop_98 W S x2 (z_gN q 1 (3 : Int32).toNatClampNeg) (1 : Int32) q (iM_n1 hq _) (z_w (show y_in (1 : Int32) (1) (1) from ⟨by decide, by decide⟩) (by decide) (by decide)) hq hW
        · have z234702 : y_in x1 (224) (224) := z_w (z_ne2 c234700 z234699 (by decide)) (by decide) (by decide)
          exact t_k_Mo_loop_98 W S x2 (z_gN q 1 (3 : Int32).toNatClampNeg) (0 : Int32) q (iM_n1 hq _) (z_w (show y_in (0 : Int32) (0) (0) from ⟨by decide, by decide⟩) (by decide) (by decide)) hq hW

set_option maxHeartbeats 4000000 in
set_option maxRecDepth 100000 in
theorem t_k_Mo_loop_13 (W : Nat) (S : z_SS) (x1 : Int32) (q : z_Sg) (hx1 : y_in x1 (224) (227)) (hq : iM W S q) (hW : W + 0 ≤ 16) : z_ok (k_Mo_loop_13 x1 q) (fun o : z_Sg => iM W z_Z o) := by
  unfold k_Mo_loop_13
  refine z_ok_b (t_f_Mo_number W S (1 : Int32) q (z_w (show y_in (1 : Int32) (1) (1) from ⟨by decide, by decide⟩) (by decide) (by decide)) hq (by omega)) (fun r2 hr2 => ?_)
  refine z_ok_i (fun c234703 => ?_) (fun c234703 => ?_)
  · have z234704 : y_in x1 (227) (227) := z_w (z_eq1 c234703 (show y_in (227 : Int32) (227) (227) from ⟨by decide, by decide⟩)) (by decide) (by decide)
    exact t_k_Mo_loop_36 W S x1 r2.1 r2.2 (z_w z234704 (by decide) (by decide)) hr2 hW
  · have z234705 : y_in x1 (224) (226) := z_w (z_ne2 c234703 hx1 (by decide)) (by decide) (by decide)
    refine z_ok_g (z_nbad (z_w (show y_in (1 : Int32) (1) (1) from ⟨by decide, by decide⟩) (by decide) (Int.le_refl _)) (by decide)) ?_
    refine z_ok_g (z_nbad (z_w (show y_in (1 : Int32) (1) (1) from ⟨by decide, by decide⟩) (by decide) (Int.le_refl _)) (by decide)) ?_
    refine z_ok_n (fun q18 eq18 => ?_)
    have hq18 : iM W z_Z q18 := by rw [eq18]; exact (iM_sM0 hr2)
    exact t_k_Mo_loop_36 W S x1 r2.1 q18 (z_w z234705 (by decide) (by decide)) hq18 hW

set_option maxHeartbeats 4000000 in
set_option maxRecDepth 100000 in
theorem t_f_Mo_loop (W : Nat) (S : z_SS) (x1 : Int32) (q : z_Sg) (hx1 : y_in x1 (224) (227)) (hq : iM W S q) (hW : W + 0 ≤ 16) : z_ok (f_Mo_loop x1 q) (fun o : z_Sg => iM W z_Z o) := by
  unfold f_Mo_loop
  refine z_ok_i (fun c234706 => ?_) (fun c234706 => ?_)
  · have z234707 : y_in (z_gI q 16) (0) (0) := z_w (z_eq1 c234706 (show y_in (0 : Int32) (0) (0) from ⟨by decide, by decide⟩)) (by decide) (by decide)
    exact t_k_Mo_loop_13 W S x1 q hx1 hq hW
  · have z234708 : y_in (z_gI q 16) (1) (1) := z_w (z_ne1 c234706 (iM_f16 hq) (by decide)) (by decide) (by decide)
    refine z_ok_b (t_f_Mo_refuse W S (6 : Int32) q (z_w (show y_in (6 : Int32) (6) (6) from ⟨by decide, by decide⟩) (by decide) (by decide)) hq (by omega)) (fun r19 hr19 => ?_)
    exact t_k_Mo_loop_13 W S x1 r19 hx1 hr19 hW

set_option maxHeartbeats 4000000 in
set_option maxRecDepth 100000 in
theorem t_k_Mo_immediate_15 (W : Nat) (S : z_SS) (x1 : Int32) (t0 : Int32) (q : z_Sg) (hx1 : y_in x1 (176) (191)) (ht0 : y_in t0 (1) (8)) (hq : iM W S q) (hW : W + 0 ≤ 16) : z_ok (k_Mo_immediate_15 x1 t0 q) (fun o : z_Sg => iM W z_Z o) := by
  unfold k_Mo_immediate_15
  refine z_ok_b (t_f_Mo_number W S t0 q ht0 hq (by omega)) (fun r3 hr3 => ?_)
  refine z_ok_b (t_f_Mo_plus W z_Z (1 : Int32) r3.2 (z_w (show y_in (1 : Int32) (1) (1) from ⟨by decide, by decide⟩) (by decide) (by decide)) hr3 (by omega)) (fun r4 hr4 => ?_)
  refine z_ok_b (t_f_Mo_put8 W z_Z ((x1 - ((x1 / (8 : Int32)) * (8 : Int32))) + r4) t0 r3.1 r3.2 (z_w (a' := 0) (b' := 15) (z_add (z_w (a' := 0) (b' := 7) (z_mod 8 hx1 (by decide) rfl (by decide) (by decide)) (by decide) (by decide)) hr4 (by decide) (by decide)) (by decide) (by decide)) ht0 hr3 (by omega)) (fun r5 hr5 => ?_)
  exact z_ok_s hr5

set_option maxHeartbeats 4000000 in
set_option maxRecDepth 100000 in
theorem t_f_Mo_immediate (W : Nat) (S : z_SS) (x1 : Int32) (q : z_Sg) (hx1 : y_in x1 (176) (191)) (hq : iM W S q) (hW : W + 0 ≤ 16) : z_ok (f_Mo_immediate x1 q) (fun o : z_Sg => iM W z_Z o) := by
  unfold f_Mo_immediate
  refine z_ok_i (fun c234709 => ?_) (fun c234709 => ?_)
  · have z234710 : y_in x1 (184) (191) := z_w (z_le2 c234709 (show y_in (184 : Int32) (184) (184) from ⟨by decide, by decide⟩) hx1) (by decide) (by decide)
    refine z_ok_b (t_f_Mo_wide W S q hq (by omega)) (fun r2 hr2 => ?_)
    exact t_k_Mo_immediate_15 W S x1 r2 q (z_w z234710 (by decide) (by decide)) (z_w hr2 (by decide) (by decide)) hq hW
  · have z234711 : y_in x1 (176) (183) := z_w (z_nle2 c234709 (show y_in (184 : Int32) (184) (184) from ⟨by decide, by decide⟩) hx1) (by decide) (by decide)
    exact t_k_Mo_immediate_15 W S x1 (1 : Int32) q (z_w z234711 (by decide) (by decide)) (z_w (show y_in (1 : Int32) (1) (1) from ⟨by decide, by decide⟩) (by decide) (by decide)) hq hW

set_option maxHeartbeats 4000000 in
set_option maxRecDepth 100000 in
theorem t_k_Mo_string_315 (W : Nat) (S : z_SS) (q : z_Sg) (hq : iM (W + 8) S q) (hW : W + 8 ≤ 16) : z_ok (k_Mo_string_315 q) (fun o : z_Sg => iM (W + 8) S o) := by
  unfold k_Mo_string_315
  exact z_ok_s hq

set_option maxHeartbeats 4000000 in
set_option maxRecDepth 100000 in
theorem t_k_Mo_string_300 (W : Nat) (S : z_SS) (t0 : Int32) (q : z_Sg) (ht0 : y_in t0 (0) (1)) (hq : iM (W + 8) S q) (hW : W + 8 ≤ 16) : z_ok (k_Mo_string_300 t0 q) (fun o : z_Sg => iM (W + 8) S o) := by
  unfold k_Mo_string_300
  refine z_ok_i (fun c234712 => ?_) (fun c234712 => ?_)
  · have z234713 : y_in t0 (0) (0) := z_w (z_eq1 c234712 (show y_in (0 : Int32) (0) (0) from ⟨by decide, by decide⟩)) (by decide) (by decide)
    refine z_ok_n (fun q27 eq27 => ?_)
    have hq27 : iM (W + 8) S q27 := by rw [eq27]; exact (iM_sL hq)
    exact t_k_Mo_string_315 W S q27 hq27 hW
  · have z234714 : y_in t0 (1) (1) := z_w (z_ne1 c234712 ht0 (by decide)) (by decide) (by decide)
    exact t_k_Mo_string_315 W S q hq hW

set_option maxHeartbeats 4000000 in
set_option maxRecDepth 100000 in
theorem t_k_Mo_string_295 (W : Nat) (S : z_SS) (q : z_Sg) (hq : iM (W + 8) S q) (hW : W + 8 ≤ 16) : z_ok (k_Mo_string_295 q) (fun o : z_Sg => iM (W + 8) S o) := by
  unfold k_Mo_string_295
  exact t_k_Mo_string_300 W S (1 : Int32) q (z_w (show y_in (1 : Int32) (1) (1) from ⟨by decide, by decide⟩) (by decide) (by decide)) hq hW

set_option maxHeartbeats 4000000 in
set_option maxRecDepth 100000 in
theorem t_k_Mo_string_299 (W : Nat) (S : z_SS) (q : z_Sg) (hq : iM (W + 8) S q) (hW : W + 8 ≤ 16) : z_ok (k_Mo_string_299 q) (fun o : z_Sg => iM (W + 8) S o) := by
  unfold k_Mo_string_299
  exact t_k_Mo_string_300 W S (0 : Int32) q (z_w (show y_in (0 : Int32) (0) (0) from ⟨by decide, by decide⟩) (by decide) (by decide)) hq hW

set_option maxHeartbeats 4000000 in
set_option maxRecDepth 100000 in
theorem t_k_Mo_string_292 (W : Nat) (S : z_SS) (t0 : Int32) (t1 : Int32) (q : z_Sg) (ht0 : y_in t0 (0) (1)) (ht1 : y_in t1 (0) (1)) (hq : iM (W + 8) S q) (hW : W + 8 ≤ 16) : z_ok (k_Mo_string_292 t0 t1 q) (fun o : z_Sg => iM (W + 8) S o) := by
  unfold k_Mo_string_292
  refine z_ok_i (fun c234715 => ?_) (fun c234715 => ?_)
  · exact t_k_Mo_string_295 W S q hq hW
  · exact t_k_Mo_string_299 W S q hq hW

set_option maxHeartbeats 4000000 in
set_option maxRecDepth 100000 in
theorem t_k_Mo_string_235 (W : Nat) (S : z_SS) (x4 : Int32) (t1 : Int32) (t2 : Int64) (t3 : Int64) (q : z_Sg) (hx4 : y_in x4 (0) (1)) (ht1 : y_in t1 (7) (7)) (hq : iM (W + 8) S q) (hW : W + 8 ≤ 16) : z_ok (k_Mo_string_235 x4 t1 t2 t3 q) (fun o : z_Sg => iM (W + 8) S o) := by
  unfold k_Mo_string_235
  refine z_ok_g (z_nbad (z_w ht1 (by decide) (Int.le_refl _)) (by decide)) ?_
  refine z_ok_n (fun q19 eq19 => ?_)
  have hq19 : iM (W + 8) S q19 := by rw [eq19]; exact (iM_sM0 hq)
  refine z_ok_i (fun c234716 => ?_) (fun c234716 => ?_)
  · have z234717 : y_in (z_gI q19 11) (0) (0) := z_w (z_eq1 c234716 (show y_in (0 : Int32) (0) (0) from ⟨by decide, by decide⟩)) (by decide) (by decide)
    exact z_ok_s hq19
  · have z234718 : y_in (z_gI q19 11) (1) (243) := z_w (z_ne1 c234716 (iM_f11 hq19) (by decide)) (by decide) (by decide)
    refine z_ok_g (z_nbad (z_w (show y_in (1 : Int32) (1) (1) from ⟨by decide, by decide⟩) (by decide) (Int.le_refl _)) (by decide)) ?_
    refine z_ok_g (z_nbad (z_w (show y_in (1 : Int32) (1) (1) from ⟨by decide, by decide⟩) (by decide) (Int.le_refl _)) (by decide)) ?_
    refine z_ok_n (fun q23 eq23 => ?_)
    have hq23 : iM (W + 8) S q23 := by rw [eq23]; exact (iM_sM0 hq19)
    refine z_ok_g (z_nbad (z_w (show y_in (1 : Int32) (1) (1) from ⟨by decide, by decide⟩) (by decide) (Int.le_refl _)) (by decide)) ?_
    refine z_ok_i (fun c234719 => ?_) (fun c234719 => ?_)
    · exact t_k_Mo_string_295 W S q23 hq23 hW
    · refine z_ok_i (fun c234720 => ?_) (fun c234720 => ?_)
      · have z234721 : y_in x4 (0) (0) := z_w (z_eq1 c234720 (show y_in (0 : Int32) (0) (0) from ⟨by decide, by decide⟩)) (by decide) (by decide)
        exact t_k_Mo_string_299 W S q23 hq23 hW
      · have z234722 : y_in x4 (1) (1) := z_w (z_ne1 c234720 hx4 (by decide)) (by decide) (by decide)
        refine z_ok_g (z_nbad (z_w (show y_in (3 : Int32) (3) (3) from ⟨by decide, by decide⟩) (by decide) (Int.le_refl _)) (by decide)) ?_
        refine z_ok_i (fun c234723 => ?_) (fun c234723 => ?_)
        · have z234724 : y_in (z_gI q23 11) (242) (242) := z_w (z_eq1 c234723 (show y_in (242 : Int32) (242) (242) from ⟨by decide, by decide⟩)) (by decide) (by decide)
          exact t_k_Mo_string_292 W S (z_gN q23 1 (3 : Int32).toNatClampNeg) (1 : Int32) q23 (iM_n1 hq23 _) (z_w (show y_in (1 : Int32) (1) (1) from ⟨by decide, by decide⟩) (by decide) (by decide)) hq23 hW
        · exact t_k_Mo_string_292 W S (z_gN q23 1 (3 : Int32).toNatClampNeg) (0 : Int32) q23 (iM_n1 hq23 _) (z_w (show y_in (0 : Int32) (0) (0) from ⟨by decide, by decide⟩) (by decide) (by decide)) hq23 hW

set_option maxHeartbeats 4000000 in
set_option maxRecDepth 100000 in
theorem t_k_Mo_string_214 (W : Nat) (S : z_SS) (x4 : Int32) (x5 : Int32) (x8 : Int64) (t1 : Int32) (t2 : Int64) (t3 : Int64) (q : z_Sg) (hx4 : y_in x4 (0) (1)) (hx5 : y_in x5 (0) (1)) (ht1 : y_in t1 (6) (6)) (hq : iM (W + 8) S q) (hW : W + 8 ≤ 16) : z_ok (k_Mo_string_214 x4 x5 x8 t1 t2 t3 q) (fun o : z_Sg => iM (W + 8) S o) := by
  unfold k_Mo_string_214
  refine z_ok_g (z_nbad (z_w ht1 (by decide) (Int.le_refl _)) (by decide)) ?_
  refine z_ok_n (fun q15 eq15 => ?_)
  have hq15 : iM (W + 8) S q15 := by rw [eq15]; exact (iM_sM0 hq)
  refine z_ok_g (z_nbad (z_w (show y_in (7 : Int32) (7) (7) from ⟨by decide, by decide⟩) (by decide) (Int.le_refl _)) (by decide)) ?_
  refine z_ok_i (fun c234725 => ?_) (fun c234725 => ?_)
  · have z234726 : y_in x5 (0) (0) := z_w (z_eq1 c234725 (show y_in (0 : Int32) (0) (0) from ⟨by decide, by decide⟩)) (by decide) (by decide)
    exact t_k_Mo_string_235 W S x4 (7 : Int32) (z_gM q15 0 (7 : Int32).toNatClampNeg) (0 : Int64) q15 hx4 (show y_in (7 : Int32) (7) (7) from ⟨by decide, by decide⟩) hq15 hW
  · have z234727 : y_in x5 (1) (1) := z_w (z_ne1 c234725 hx5 (by decide)) (by decide) (by decide)
    exact t_k_Mo_string_235 W S x4 (7 : Int32) (z_gM q15 0 (7 : Int32).toNatClampNeg) x8 q15 hx4 (show y_in (7 : Int32) (7) (7) from ⟨by decide, by decide⟩) hq15 hW

set_option maxHeartbeats 4000000 in
set_option maxRecDepth 100000 in
theorem t_k_Mo_string_194 (W : Nat) (S : z_SS) (x3 : Int32) (x4 : Int32) (x5 : Int32) (t0 : Int64) (q : z_Sg) (hx3 : y_in x3 (0) (1)) (hx4 : y_in x4 (0) (1)) (hx5 : y_in x5 (0) (1)) (hq : iM (W + 8) S q) (hW : W + 8 ≤ 16) : z_ok (k_Mo_string_194 x3 x4 x5 t0 q) (fun o : z_Sg => iM (W + 8) S o) := by
  unfold k_Mo_string_194
  refine z_ok_g (z_nbad (z_w (show y_in (6 : Int32) (6) (6) from ⟨by decide, by decide⟩) (by decide) (Int.le_refl _)) (by decide)) ?_
  refine z_ok_i (fun c234728 => ?_) (fun c234728 => ?_)
  · have z234729 : y_in x3 (0) (0) := z_w (z_eq1 c234728 (show y_in (0 : Int32) (0) (0) from ⟨by decide, by decide⟩)) (by decide) (by decide)
    exact t_k_Mo_string_214 W S x4 x5 t0 (6 : Int32) (z_gM q 0 (6 : Int32).toNatClampNeg) (0 : Int64) q hx4 hx5 (show y_in (6 : Int32) (6) (6) from ⟨by decide, by decide⟩) hq hW
  · have z234730 : y_in x3 (1) (1) := z_w (z_ne1 c234728 hx3 (by decide)) (by decide) (by decide)
    exact t_k_Mo_string_214 W S x4 x5 t0 (6 : Int32) (z_gM q 0 (6 : Int32).toNatClampNeg) t0 q hx4 hx5 (show y_in (6 : Int32) (6) (6) from ⟨by decide, by decide⟩) hq hW
