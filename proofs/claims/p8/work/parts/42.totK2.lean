set_option maxHeartbeats 4000000 in
set_option maxRecDepth 100000 in
theorem t_k_Wi_divide_67 (x1 : Int64) (x3 : Int64) (x7 : Int32) (x8 : Int32) (x9 : Int64) (x11 : Int32) (x12 : Int32) (t0 : Int64) (q : z_Sg) (hx7 : y_in x7 (0) (8)) (hx8 : y_in x8 (0) (1)) (hx11 : y_in x11 (0) (1)) (hx12 : y_in x12 (0) (1)) (hq : iK q) : z_ok (k_Wi_divide_67 x1 x3 x7 x8 x9 x11 x12 t0 q) (fun o : Int32 × z_Sg => iK o.2 ∧ y_in o.1 (0) (1)) := by
  unfold k_Wi_divide_67
  refine z_ok_n (fun n5 en5 => ?_)
  refine z_ok_i (fun c61964 => ?_) (fun c61964 => ?_)
  · have z61965 : y_in x11 (0) (0) := z_w (z_eq1 c61964 (show y_in (0 : Int32) (0) (0) from ⟨by decide, by decide⟩)) (by decide) (by decide)
    exact t_k_Wi_divide_111 x7 x8 x9 x11 x12 n5 x1 x3 q hx7 hx8 (z_w z61965 (by decide) (by decide)) hx12 hq
  · have z61966 : y_in x11 (1) (1) := z_w (z_ne1 c61964 hx11 (by decide)) (by decide) (by decide)
    refine z_ok_n (fun n22 en22 => ?_)
    refine z_ok_i (fun c61967 => ?_) (fun c61967 => ?_)
    · exact t_k_Wi_divide_106 x7 x8 x9 x11 x12 n5 n22 (-x1) q hx7 hx8 z61966 hx12 hq
    · exact t_k_Wi_divide_106 x7 x8 x9 x11 x12 n5 n22 (x1 ^^^ (-1 : Int64)) q hx7 hx8 z61966 hx12 hq

set_option maxHeartbeats 4000000 in
set_option maxRecDepth 100000 in
theorem t_k_Wi_divide_52 (x1 : Int64) (x3 : Int64) (x5 : Int64) (x7 : Int32) (x8 : Int32) (x9 : Int64) (x11 : Int32) (t0 : Int32) (q : z_Sg) (hx7 : y_in x7 (0) (8)) (hx8 : y_in x8 (0) (1)) (hx11 : y_in x11 (0) (1)) (ht0 : y_in t0 (0) (1)) (hq : iK q) : z_ok (k_Wi_divide_52 x1 x3 x5 x7 x8 x9 x11 t0 q) (fun o : Int32 × z_Sg => iK o.2 ∧ y_in o.1 (0) (1)) := by
  unfold k_Wi_divide_52
  refine z_ok_i (fun c61968 => ?_) (fun c61968 => ?_)
  · have z61969 : y_in t0 (0) (0) := z_w (z_eq1 c61968 (show y_in (0 : Int32) (0) (0) from ⟨by decide, by decide⟩)) (by decide) (by decide)
    exact t_k_Wi_divide_67 x1 x3 x7 x8 x9 x11 t0 x5 q hx7 hx8 hx11 (z_w z61969 (by decide) (by decide)) hq
  · have z61970 : y_in t0 (1) (1) := z_w (z_ne1 c61968 ht0 (by decide)) (by decide) (by decide)
    exact t_k_Wi_divide_67 x1 x3 x7 x8 x9 x11 t0 (-x5) q hx7 hx8 hx11 (z_w z61970 (by decide) (by decide)) hq

set_option maxHeartbeats 4000000 in
set_option maxRecDepth 100000 in
theorem t_k_Wi_divide_51 (x1 : Int64) (x3 : Int64) (x5 : Int64) (x7 : Int32) (x8 : Int32) (x9 : Int64) (x11 : Int32) (q : z_Sg) (hx7 : y_in x7 (0) (8)) (hx8 : y_in x8 (0) (1)) (hx11 : y_in x11 (0) (1)) (hq : iK q) : z_ok (k_Wi_divide_51 x1 x3 x5 x7 x8 x9 x11 q) (fun o : Int32 × z_Sg => iK o.2 ∧ y_in o.1 (0) (1)) := by
  unfold k_Wi_divide_51
  exact t_k_Wi_divide_52 x1 x3 x5 x7 x8 x9 x11 (0 : Int32) q hx7 hx8 hx11 (z_w (show y_in (0 : Int32) (0) (0) from ⟨by decide, by decide⟩) (by decide) (by decide)) hq

set_option maxHeartbeats 4000000 in
set_option maxRecDepth 100000 in
theorem t_k_Wi_divide_28 (x1 : Int64) (x3 : Int64) (x5 : Int64) (x7 : Int32) (x8 : Int32) (x9 : Int64) (t0 : Int32) (q : z_Sg) (hx7 : y_in x7 (0) (8)) (hx8 : y_in x8 (0) (1)) (ht0 : y_in t0 (0) (1)) (hq : iK q) : z_ok (k_Wi_divide_28 x1 x3 x5 x7 x8 x9 t0 q) (fun o : Int32 × z_Sg => iK o.2 ∧ y_in o.1 (0) (1)) := by
  unfold k_Wi_divide_28
  refine z_ok_i (fun c61971 => ?_) (fun c61971 => ?_)
  · have z61972 : y_in x8 (0) (0) := z_w (z_eq1 c61971 (show y_in (0 : Int32) (0) (0) from ⟨by decide, by decide⟩)) (by decide) (by decide)
    exact t_k_Wi_divide_51 x1 x3 x5 x7 x8 x9 t0 q hx7 (z_w z61972 (by decide) (by decide)) ht0 hq
  · have z61973 : y_in x8 (1) (1) := z_w (z_ne1 c61971 hx8 (by decide)) (by decide) (by decide)
    refine z_ok_b (t_f_Ar_signed x5 x7 q hx7 hq) (fun r25 hr25 => ?_)
    refine z_ok_i (fun c61974 => ?_) (fun c61974 => ?_)
    · exact t_k_Wi_divide_51 x1 x3 x5 x7 x8 x9 t0 q hx7 (z_w z61973 (by decide) (by decide)) ht0 hq
    · exact t_k_Wi_divide_52 x1 x3 x5 x7 x8 x9 t0 (1 : Int32) q hx7 (z_w z61973 (by decide) (by decide)) ht0 (z_w (show y_in (1 : Int32) (1) (1) from ⟨by decide, by decide⟩) (by decide) (by decide)) hq

set_option maxHeartbeats 4000000 in
set_option maxRecDepth 100000 in
theorem t_k_Wi_divide_27 (x1 : Int64) (x3 : Int64) (x5 : Int64) (x7 : Int32) (x8 : Int32) (x9 : Int64) (q : z_Sg) (hx7 : y_in x7 (0) (8)) (hx8 : y_in x8 (0) (1)) (hq : iK q) : z_ok (k_Wi_divide_27 x1 x3 x5 x7 x8 x9 q) (fun o : Int32 × z_Sg => iK o.2 ∧ y_in o.1 (0) (1)) := by
  unfold k_Wi_divide_27
  exact t_k_Wi_divide_28 x1 x3 x5 x7 x8 x9 (0 : Int32) q hx7 hx8 (z_w (show y_in (0 : Int32) (0) (0) from ⟨by decide, by decide⟩) (by decide) (by decide)) hq

set_option maxHeartbeats 4000000 in
set_option maxRecDepth 100000 in
theorem t_f_Wi_divide (x1 : Int64) (x3 : Int64) (x5 : Int64) (x7 : Int32) (x8 : Int32) (q : z_Sg) (hx7 : y_in x7 (0) (8)) (hx8 : y_in x8 (0) (1)) (hq : iK q) : z_ok (f_Wi_divide x1 x3 x5 x7 x8 q) (fun o : Int32 × z_Sg => iK o.2 ∧ y_in o.1 (0) (1)) := by
  unfold f_Wi_divide
  refine z_ok_b (t_f_Ar_maskOf x7 q hx7 hq) (fun r1 hr1 => ?_)
  refine z_ok_i (fun c61975 => ?_) (fun c61975 => ?_)
  · have z61976 : y_in x8 (0) (0) := z_w (z_eq1 c61975 (show y_in (0 : Int32) (0) (0) from ⟨by decide, by decide⟩)) (by decide) (by decide)
    exact t_k_Wi_divide_27 x1 x3 x5 x7 x8 r1 q hx7 (z_w z61976 (by decide) (by decide)) hq
  · have z61977 : y_in x8 (1) (1) := z_w (z_ne1 c61975 hx8 (by decide)) (by decide) (by decide)
    refine z_ok_b (t_f_Ar_signed x1 x7 q hx7 hq) (fun r27 hr27 => ?_)
    refine z_ok_i (fun c61978 => ?_) (fun c61978 => ?_)
    · exact t_k_Wi_divide_27 x1 x3 x5 x7 x8 r1 q hx7 (z_w z61977 (by decide) (by decide)) hq
    · exact t_k_Wi_divide_28 x1 x3 x5 x7 x8 r1 (1 : Int32) q hx7 (z_w z61977 (by decide) (by decide)) (z_w (show y_in (1 : Int32) (1) (1) from ⟨by decide, by decide⟩) (by decide) (by decide)) hq

set_option maxHeartbeats 4000000 in
set_option maxRecDepth 100000 in
theorem t_f_On_putHalves (x1 : Int32) (q : z_Sg) (hx1 : y_in x1 (0) (8)) (hq : iK q) : z_ok (f_On_putHalves x1 q) (fun o : z_Sg => iK o) := by
  unfold f_On_putHalves
  refine z_ok_i (fun c61979 => ?_) (fun c61979 => ?_)
  · have z61980 : y_in x1 (1) (1) := z_w (z_eq1 c61979 (show y_in (1 : Int32) (1) (1) from ⟨by decide, by decide⟩)) (by decide) (by decide)
    refine z_ok_b (t_f_Op_putPart (0 : Int32) ((z_lshl (z_gL q 12) (8 : Int32)) ||| (z_gL q 11)) (2 : Int32) q (z_w (show y_in (0 : Int32) (0) (0) from ⟨by decide, by decide⟩) (by decide) (by decide)) (z_w (show y_in (2 : Int32) (2) (2) from ⟨by decide, by decide⟩) (by decide) (by decide)) hq) (fun r4 hr4 => ?_)
    exact z_ok_s hr4
  · refine z_ok_b (t_f_Op_putPart (0 : Int32) (z_gL q 11) x1 q (z_w (show y_in (0 : Int32) (0) (0) from ⟨by decide, by decide⟩) (by decide) (by decide)) hx1 hq) (fun r2 hr2 => ?_)
    refine z_ok_b (t_f_Op_putPart (2 : Int32) (z_gL r2 12) x1 r2 (z_w (show y_in (2 : Int32) (2) (2) from ⟨by decide, by decide⟩) (by decide) (by decide)) hx1 hr2) (fun r3 hr3 => ?_)
    exact z_ok_s hr3

set_option maxHeartbeats 4000000 in
set_option maxRecDepth 100000 in
theorem t_k_On_divideBy_69 (x3 : Int32) (t1 : Int64) (t2 : Int64) (t3 : Int64) (t4 : Int32) (t5 : Int32) (q : z_Sg) (hx3 : y_in x3 (0) (8)) (ht4 : y_in t4 (0) (8)) (ht5 : y_in t5 (0) (1)) (hq : iK q) : z_ok (k_On_divideBy_69 x3 t1 t2 t3 t4 t5 q) (fun o : Int32 × z_Sg => iK o.2 ∧ y_in o.1 (-1) (0)) := by
  unfold k_On_divideBy_69
  refine z_ok_b (t_f_Wi_divide t1 t2 t3 t4 t5 q ht4 ht5 hq) (fun r5 hr5 => ?_)
  refine z_ok_i (fun c61981 => ?_) (fun c61981 => ?_)
  · have z61982 : y_in r5.1 (0) (0) := z_w (z_eq1 c61981 (show y_in (0 : Int32) (0) (0) from ⟨by decide, by decide⟩)) (by decide) (by decide)
    exact z_ok_s ⟨hr5.1, (z_w (show y_in (0 : Int32) (0) (0) from ⟨by decide, by decide⟩) (by decide) (by decide))⟩
  · have z61983 : y_in r5.1 (1) (1) := z_w (z_ne1 c61981 hr5.2 (by decide)) (by decide) (by decide)
    refine z_ok_b (t_f_On_putHalves x3 r5.2 hx3 hr5.1) (fun r7 hr7 => ?_)
    exact z_ok_s ⟨hr7, (z_w (show y_in (-1 : Int32) (-1) (-1) from ⟨by decide, by decide⟩) (by decide) (by decide))⟩

set_option maxHeartbeats 4000000 in
set_option maxRecDepth 100000 in
theorem t_k_On_divideBy_33 (x1 : Int64) (x3 : Int32) (t0 : Int64) (q : z_Sg) (hx3 : y_in x3 (0) (8)) (hq : iK q) : z_ok (k_On_divideBy_33 x1 x3 t0 q) (fun o : Int32 × z_Sg => iK o.2 ∧ y_in o.1 (-1) (0)) := by
  unfold k_On_divideBy_33
  refine z_ok_b (t_f_Op_part (0 : Int32) x3 q (z_w (show y_in (0 : Int32) (0) (0) from ⟨by decide, by decide⟩) (by decide) (by decide)) hx3 hq) (fun r3 hr3 => ?_)
  refine z_ok_i (fun c61984 => ?_) (fun c61984 => ?_)
  · have z61985 : y_in (z_gI q 13) (7) (7) := z_w (z_eq1 c61984 (show y_in (7 : Int32) (7) (7) from ⟨by decide, by decide⟩)) (by decide) (by decide)
    exact t_k_On_divideBy_69 x3 t0 r3 x1 x3 (1 : Int32) q hx3 hx3 (z_w (show y_in (1 : Int32) (1) (1) from ⟨by decide, by decide⟩) (by decide) (by decide)) hq
  · have z61986 : y_in (z_gI q 13) (0) (6) := z_w (z_ne2 c61984 (iK_f13 hq) (by decide)) (by decide) (by decide)
    exact t_k_On_divideBy_69 x3 t0 r3 x1 x3 (0 : Int32) q hx3 hx3 (z_w (show y_in (0 : Int32) (0) (0) from ⟨by decide, by decide⟩) (by decide) (by decide)) hq

set_option maxHeartbeats 4000000 in
set_option maxRecDepth 100000 in
theorem t_f_On_divideBy (x1 : Int64) (x3 : Int32) (q : z_Sg) (hx3 : y_in x3 (0) (8)) (hq : iK q) : z_ok (f_On_divideBy x1 x3 q) (fun o : Int32 × z_Sg => iK o.2 ∧ y_in o.1 (-1) (0)) := by
  unfold f_On_divideBy
  refine z_ok_i (fun c61987 => ?_) (fun c61987 => ?_)
  · have z61988 : y_in x3 (1) (1) := z_w (z_eq1 c61987 (show y_in (1 : Int32) (1) (1) from ⟨by decide, by decide⟩)) (by decide) (by decide)
    refine z_ok_g (z_nbad (show y_in (0 : Int32) (0) (0) from ⟨by decide, by decide⟩) (by decide)) ?_
    exact t_k_On_divideBy_33 x1 x3 ((z_lushr (z_gM q 0 (0 : Int32).toNatClampNeg) (8 : Int32)) &&& (255 : Int64)) q (z_w z61988 (by decide) (by decide)) hq
  · refine z_ok_b (t_f_Op_part (2 : Int32) x3 q (z_w (show y_in (2 : Int32) (2) (2) from ⟨by decide, by decide⟩) (by decide) (by decide)) hx3 hq) (fun r2 hr2 => ?_)
    exact t_k_On_divideBy_33 x1 x3 r2 q hx3 hq

set_option maxHeartbeats 4000000 in
set_option maxRecDepth 100000 in
theorem t_k_On_executeByReg_166 (q : z_Sg) (hq : iK q) : z_ok (k_On_executeByReg_166 q) (fun o : Int32 × z_Sg => iK o.2 ∧ y_in o.1 (-1) (0)) := by
  unfold k_On_executeByReg_166
  exact z_ok_s ⟨hq, (z_w (show y_in (-1 : Int32) (-1) (-1) from ⟨by decide, by decide⟩) (by decide) (by decide))⟩

set_option maxHeartbeats 4000000 in
set_option maxRecDepth 100000 in
theorem t_k_On_executeByReg_159 (x1 : Int32) (x2 : Int64) (q : z_Sg) (hx1 : y_in x1 (0) (8)) (hq : iK q) : z_ok (k_On_executeByReg_159 x1 x2 q) (fun o : Int32 × z_Sg => iK o.2 ∧ y_in o.1 (-1) (0)) := by
  unfold k_On_executeByReg_159
  refine z_ok_b (t_f_On_divideBy x2 x1 q hx1 hq) (fun r6 hr6 => ?_)
  exact z_ok_s ⟨hr6.1, hr6.2⟩

set_option maxHeartbeats 4000000 in
set_option maxRecDepth 100000 in
theorem t_k_On_executeByReg_148 (x1 : Int32) (t1 : Int64) (t2 : Int64) (t3 : Int32) (t4 : Int32) (q : z_Sg) (hx1 : y_in x1 (0) (8)) (ht3 : y_in t3 (0) (8)) (ht4 : y_in t4 (0) (1)) (hq : iK q) : z_ok (k_On_executeByReg_148 x1 t1 t2 t3 t4 q) (fun o : Int32 × z_Sg => iK o.2 ∧ y_in o.1 (-1) (0)) := by
  unfold k_On_executeByReg_148
  refine z_ok_b (t_f_Wi_multiply t1 t2 t3 t4 q ht3 ht4 hq) (fun r15 hr15 => ?_)
  refine z_ok_b (t_f_On_putHalves x1 r15 hx1 hr15) (fun r16 hr16 => ?_)
  exact t_k_On_executeByReg_166 r16 hr16

set_option maxHeartbeats 4000000 in
set_option maxRecDepth 100000 in
theorem t_k_On_executeByReg_117 (x1 : Int32) (x2 : Int64) (q : z_Sg) (hx1 : y_in x1 (0) (8)) (hq : iK q) : z_ok (k_On_executeByReg_117 x1 x2 q) (fun o : Int32 × z_Sg => iK o.2 ∧ y_in o.1 (-1) (0)) := by
  unfold k_On_executeByReg_117
  refine z_ok_b (t_f_Op_part (0 : Int32) x1 q (z_w (show y_in (0 : Int32) (0) (0) from ⟨by decide, by decide⟩) (by decide) (by decide)) hx1 hq) (fun r13 hr13 => ?_)
  refine z_ok_i (fun c61989 => ?_) (fun c61989 => ?_)
  · have z61990 : y_in (z_gI q 13) (5) (5) := z_w (z_eq1 c61989 (show y_in (5 : Int32) (5) (5) from ⟨by decide, by decide⟩)) (by decide) (by decide)
    exact t_k_On_executeByReg_148 x1 r13 x2 x1 (1 : Int32) q hx1 hx1 (z_w (show y_in (1 : Int32) (1) (1) from ⟨by decide, by decide⟩) (by decide) (by decide)) hq
  · exact t_k_On_executeByReg_148 x1 r13 x2 x1 (0 : Int32) q hx1 hx1 (z_w (show y_in (0 : Int32) (0) (0) from ⟨by decide, by decide⟩) (by decide) (by decide)) hq

set_option maxHeartbeats 4000000 in
set_option maxRecDepth 100000 in
theorem t_f_On_executeByReg (q : z_Sg) (hq : iK q) : z_ok (f_On_executeByReg q) (fun o : Int32 × z_Sg => iK o.2 ∧ y_in o.1 (-1) (0)) := by
  unfold f_On_executeByReg
  refine z_ok_n (fun n1 en1 => ?_)
  have hn1 : y_in n1 (0) (8) := z_e en1 (iK_f15 hq)
  refine z_ok_b (t_f_Op_value q hq) (fun r2 hr2 => ?_)
  refine z_ok_i (fun c61991 => ?_) (fun c61991 => ?_)
  · have z61992 : y_in (z_gI q 13) (0) (0) := z_w (z_eq1 c61991 (show y_in (0 : Int32) (0) (0) from ⟨by decide, by decide⟩)) (by decide) (by decide)
    refine z_ok_b (t_f_Ar_logic (r2 &&& (z_gL q 9)) n1 q hn1 hq) (fun r4 hr4 => ?_)
    exact t_k_On_executeByReg_166 r4.2 hr4
  · have z61993 : y_in (z_gI q 13) (1) (7) := z_w (z_ne1 c61991 (iK_f13 hq) (by decide)) (by decide) (by decide)
    refine z_ok_i (fun c61994 => ?_) (fun c61994 => ?_)
    · have z61995 : y_in (z_gI q 13) (1) (1) := z_w (z_eq1 c61994 (show y_in (1 : Int32) (1) (1) from ⟨by decide, by decide⟩)) (by decide) (by decide)
      exact t_k_On_executeByReg_159 n1 r2 q hn1 hq
    · have z61996 : y_in (z_gI q 13) (2) (7) := z_w (z_ne1 c61994 z61993 (by decide)) (by decide) (by decide)
      refine z_ok_i (fun c61997 => ?_) (fun c61997 => ?_)
      · have z61998 : y_in (z_gI q 13) (2) (2) := z_w (z_eq1 c61997 (show y_in (2 : Int32) (2) (2) from ⟨by decide, by decide⟩)) (by decide) (by decide)
        refine z_ok_b (t_f_Op_put (r2 ^^^ (-1 : Int64)) q hq) (fun r8 hr8 => ?_)
        exact t_k_On_executeByReg_166 r8 hr8
      · have z61999 : y_in (z_gI q 13) (3) (7) := z_w (z_ne1 c61997 z61996 (by decide)) (by decide) (by decide)
        refine z_ok_i (fun c62000 => ?_) (fun c62000 => ?_)
        · have z62001 : y_in (z_gI q 13) (3) (3) := z_w (z_eq1 c62000 (show y_in (3 : Int32) (3) (3) from ⟨by decide, by decide⟩)) (by decide) (by decide)
          refine z_ok_b (t_f_Ar_difference (0 : Int64) r2 (0 : Int64) n1 q hn1 hq) (fun r10 hr10 => ?_)
          refine z_ok_b (t_f_Op_put r10.1 r10.2 hr10) (fun r11 hr11 => ?_)
          exact t_k_On_executeByReg_166 r11 hr11
        · have z62002 : y_in (z_gI q 13) (4) (7) := z_w (z_ne1 c62000 z61999 (by decide)) (by decide) (by decide)
          refine z_ok_i (fun c62003 => ?_) (fun c62003 => ?_)
          · have z62004 : y_in (z_gI q 13) (4) (4) := z_w (z_eq1 c62003 (show y_in (4 : Int32) (4) (4) from ⟨by decide, by decide⟩)) (by decide) (by decide)
            exact t_k_On_executeByReg_117 n1 r2 q hn1 hq
          · have z62005 : y_in (z_gI q 13) (5) (7) := z_w (z_ne1 c62003 z62002 (by decide)) (by decide) (by decide)
            refine z_ok_i (fun c62006 => ?_) (fun c62006 => ?_)
            · have z62007 : y_in (z_gI q 13) (5) (5) := z_w (z_eq1 c62006 (show y_in (5 : Int32) (5) (5) from ⟨by decide, by decide⟩)) (by decide) (by decide)
              exact t_k_On_executeByReg_117 n1 r2 q hn1 hq
            · have z62008 : y_in (z_gI q 13) (6) (7) := z_w (z_ne1 c62006 z62005 (by decide)) (by decide) (by decide)
              exact t_k_On_executeByReg_159 n1 r2 q hn1 hq

set_option maxHeartbeats 4000000 in
set_option maxRecDepth 100000 in
theorem t_k_On_sizeByOpcode_23 (t0 : Int32) (q : z_Sg) (ht0 : y_in t0 (1) (8)) (hq : iK q) : z_ok (k_On_sizeByOpcode_23 t0 q) (fun o : Int32 => y_in o (1) (8)) := by
  unfold k_On_sizeByOpcode_23
  exact z_ok_s ht0

set_option maxHeartbeats 4000000 in
set_option maxRecDepth 100000 in
theorem t_f_On_sizeByOpcode (q : z_Sg) (hq : iK q) : z_ok (f_On_sizeByOpcode q) (fun o : Int32 => y_in o (1) (8)) := by
  unfold f_On_sizeByOpcode
  refine z_ok_i (fun c62009 => ?_) (fun c62009 => ?_)
  · have z62010 : y_in ((z_gI q 11) &&& (1 : Int32)) (0) (0) := z_w (z_eq1 c62009 (show y_in (0 : Int32) (0) (0) from ⟨by decide, by decide⟩)) (by decide) (by decide)
    exact t_k_On_sizeByOpcode_23 (1 : Int32) q (z_w (show y_in (1 : Int32) (1) (1) from ⟨by decide, by decide⟩) (by decide) (by decide)) hq
  · have z62011 : y_in ((z_gI q 11) &&& (1 : Int32)) (1) (1) := z_w (z_ne1 c62009 (z_and (show y_in (1 : Int32) (1) (1) from ⟨by decide, by decide⟩) (by decide)) (by decide)) (by decide) (by decide)
    refine z_ok_b (t_f_De_sizeV q hq) (fun r2 hr2 => ?_)
    exact t_k_On_sizeByOpcode_23 r2 q (z_w hr2 (by decide) (by decide)) hq

set_option maxHeartbeats 4000000 in
set_option maxRecDepth 100000 in
theorem t_k_On_countOfShift_49 (t0 : Int32) (q : z_Sg) (hq : iK q) : z_ok (k_On_countOfShift_49 t0 q) (fun o : Int32 => y_in o (-2147483648) (2147483647)) := by
  unfold k_On_countOfShift_49
  exact z_ok_s (z_full _)

set_option maxHeartbeats 4000000 in
set_option maxRecDepth 100000 in
theorem t_f_On_countOfShift (q : z_Sg) (hq : iK q) : z_ok (f_On_countOfShift q) (fun o : Int32 => y_in o (-2147483648) (2147483647)) := by
  unfold f_On_countOfShift
  refine z_ok_i (fun c62012 => ?_) (fun c62012 => ?_)
  · have z62013 : y_in (z_gI q 11) (208) (511) := z_w (z_le2 c62012 (show y_in (208 : Int32) (208) (208) from ⟨by decide, by decide⟩) (iK_f11 hq)) (by decide) (by decide)
    refine z_ok_i (fun c62014 => ?_) (fun c62014 => ?_)
    · have z62015 : y_in (z_gI q 11) (210) (511) := z_w (z_le2 c62014 (show y_in (210 : Int32) (210) (210) from ⟨by decide, by decide⟩) z62013) (by decide) (by decide)
      refine z_ok_g (z_nbad (z_w (show y_in (1 : Int32) (1) (1) from ⟨by decide, by decide⟩) (by decide) (Int.le_refl _)) (by decide)) ?_
      exact t_k_On_countOfShift_49 (z_gM q 0 (1 : Int32).toNatClampNeg).toInt32 q hq
    · have z62016 : y_in (z_gI q 11) (208) (209) := z_w (z_nle2 c62014 (show y_in (210 : Int32) (210) (210) from ⟨by decide, by decide⟩) z62013) (by decide) (by decide)
      exact t_k_On_countOfShift_49 (1 : Int32) q hq
  · have z62017 : y_in (z_gI q 11) (0) (207) := z_w (z_nle2 c62012 (show y_in (208 : Int32) (208) (208) from ⟨by decide, by decide⟩) (iK_f11 hq)) (by decide) (by decide)
    exact z_ok_s (z_full _)

set_option maxHeartbeats 4000000 in
set_option maxRecDepth 100000 in
theorem t_k_Ar_settleRotation_79 (t1 : Int32) (t2 : Int32) (t3 : Int32) (q : z_Sg) (ht1 : y_in t1 (1) (2049)) (ht2 : y_in t2 (0) (4095)) (ht3 : y_in t3 (0) (2048)) (hq : iK q) : z_ok (k_Ar_settleRotation_79 t1 t2 t3 q) (fun o : z_Sg => iK o) := by
  unfold k_Ar_settleRotation_79
  refine z_ok_b (t_f_Ar_settle t1 t2 t3 q (z_w ht1 (by decide) (by decide)) ht2 (z_w ht3 (by decide) (by decide)) hq) (fun r7 hr7 => ?_)
  exact z_ok_s hr7

set_option maxHeartbeats 4000000 in
set_option maxRecDepth 100000 in
theorem t_k_Ar_settleRotation_64 (x6 : Int32) (x11 : Int32) (t1 : Int32) (q : z_Sg) (hx6 : y_in x6 (1) (63)) (hx11 : y_in x11 (0) (4095)) (ht1 : y_in t1 (1) (2049)) (hq : iK q) : z_ok (k_Ar_settleRotation_64 x6 x11 t1 q) (fun o : z_Sg => iK o) := by
  unfold k_Ar_settleRotation_64
  refine z_ok_i (fun c62018 => ?_) (fun c62018 => ?_)
  · have z62019 : y_in x6 (1) (1) := z_w (z_eq1 c62018 (show y_in (1 : Int32) (1) (1) from ⟨by decide, by decide⟩)) (by decide) (by decide)
    exact t_k_Ar_settleRotation_79 t1 x11 (0 : Int32) q ht1 hx11 (z_w (show y_in (0 : Int32) (0) (0) from ⟨by decide, by decide⟩) (by decide) (by decide)) hq
  · have z62020 : y_in x6 (2) (63) := z_w (z_ne1 c62018 hx6 (by decide)) (by decide) (by decide)
    exact t_k_Ar_settleRotation_79 t1 x11 (2048 : Int32) q ht1 hx11 (z_w (show y_in (2048 : Int32) (2048) (2048) from ⟨by decide, by decide⟩) (by decide) (by decide)) hq

set_option maxHeartbeats 4000000 in
set_option maxRecDepth 100000 in
theorem t_k_Ar_settleRotation_28 (x4 : Int64) (x6 : Int32) (t0 : Int64) (t1 : Int64) (q : z_Sg) (hx6 : y_in x6 (1) (63)) (hq : iK q) : z_ok (k_Ar_settleRotation_28 x4 x6 t0 t1 q) (fun o : z_Sg => iK o) := by
  unfold k_Ar_settleRotation_28
  refine z_ok_n (fun n3 en3 => ?_)
  refine z_ok_n (fun n4 en4 => ?_)
  have hn4 : y_in n4 (0) (4095) := z_e en4 (z_w (a' := 0) (b' := 4095) (z_or 12 (z_w (a' := 0) (b' := 1) (z_mul (z_l2i (n := 1) rfl (by decide)) (show y_in (1 : Int32) (1) (1) from ⟨by decide, by decide⟩) (by decide) (by decide) (by decide)) (by decide) (by decide)) (z_w (a' := 0) (b' := 2048) (z_mul (z_l2i (n := 1) rfl (by decide)) (show y_in (2048 : Int32) (2048) (2048) from ⟨by decide, by decide⟩) (by decide) (by decide) (by decide)) (by decide) (by decide)) (by decide) (by decide) (by decide) (by decide) (by decide)) (by decide) (by decide))
  refine z_ok_i (fun c62021 => ?_) (fun c62021 => ?_)
  · have z62022 : y_in x6 (1) (1) := z_w (z_eq1 c62021 (show y_in (1 : Int32) (1) (1) from ⟨by decide, by decide⟩)) (by decide) (by decide)
    exact t_k_Ar_settleRotation_64 x6 n4 (2049 : Int32) q (z_w z62022 (by decide) (by decide)) hn4 (z_w (show y_in (2049 : Int32) (2049) (2049) from ⟨by decide, by decide⟩) (by decide) (by decide)) hq
  · have z62023 : y_in x6 (2) (63) := z_w (z_ne1 c62021 hx6 (by decide)) (by decide) (by decide)
    exact t_k_Ar_settleRotation_64 x6 n4 (1 : Int32) q (z_w z62023 (by decide) (by decide)) hn4 (z_w (show y_in (1 : Int32) (1) (1) from ⟨by decide, by decide⟩) (by decide) (by decide)) hq

set_option maxHeartbeats 4000000 in
set_option maxRecDepth 100000 in
theorem t_f_Ar_settleRotation (x1 : Int32) (x2 : Int64) (x4 : Int64) (x6 : Int32) (x7 : Int32) (q : z_Sg) (hx1 : y_in x1 (0) (1)) (hx6 : y_in x6 (1) (63)) (hx7 : y_in x7 (1) (8)) (hq : iK q) : z_ok (f_Ar_settleRotation x1 x2 x4 x6 x7 q) (fun o : z_Sg => iK o) := by
  unfold f_Ar_settleRotation
  refine z_ok_n (fun n1 en1 => ?_)
  have hn1 : y_in n1 (8) (64) := z_e en1 (z_w (a' := 8) (b' := 64) (z_mul (show y_in (8 : Int32) (8) (8) from ⟨by decide, by decide⟩) hx7 (by decide) (by decide) (by decide)) (by decide) (by decide))
  refine z_ok_i (fun c62024 => ?_) (fun c62024 => ?_)
  · have z62025 : y_in x1 (0) (0) := z_w (z_eq1 c62024 (show y_in (0 : Int32) (0) (0) from ⟨by decide, by decide⟩)) (by decide) (by decide)
    exact t_k_Ar_settleRotation_28 x4 x6 (z_lushr x2 (n1 - (1 : Int32))) (z_lushr x2 (n1 - (2 : Int32))) q hx6 hq
  · have z62026 : y_in x1 (1) (1) := z_w (z_ne1 c62024 hx1 (by decide)) (by decide) (by decide)
    exact t_k_Ar_settleRotation_28 x4 x6 (z_lushr x2 (n1 - (1 : Int32))) x4 q hx6 hq

set_option maxHeartbeats 4000000 in
set_option maxRecDepth 100000 in
theorem t_k_Ar_rotate_78 (x4 : Int32) (x5 : Int32) (x8 : Int64) (t1 : Int32) (t2 : Int64) (t3 : Int64) (q : z_Sg) (hx4 : y_in x4 (1) (63)) (hx5 : y_in x5 (1) (8)) (ht1 : y_in t1 (0) (1)) (hq : iK q) : z_ok (k_Ar_rotate_78 x4 x5 x8 t1 t2 t3 q) (fun o : Int64 × z_Sg => iK o.2) := by
  unfold k_Ar_rotate_78
  refine z_ok_b (t_f_Ar_settleRotation t1 t2 t3 x4 x5 q ht1 hx4 hx5 hq) (fun r9 hr9 => ?_)
  exact z_ok_s hr9

set_option maxHeartbeats 4000000 in
set_option maxRecDepth 100000 in
theorem t_k_Ar_rotate_56 (x1 : Int32) (x4 : Int32) (x5 : Int32) (x6 : Int32) (t0 : Int64) (q : z_Sg) (hx1 : y_in x1 (0) (1)) (hx4 : y_in x4 (1) (63)) (hx5 : y_in x5 (1) (8)) (hx6 : y_in x6 (8) (64)) (hq : iK q) : z_ok (k_Ar_rotate_56 x1 x4 x5 x6 t0 q) (fun o : Int64 × z_Sg => iK o.2) := by
  unfold k_Ar_rotate_56
  refine z_ok_i (fun c62027 => ?_) (fun c62027 => ?_)
  · have z62028 : y_in x1 (0) (0) := z_w (z_eq1 c62027 (show y_in (0 : Int32) (0) (0) from ⟨by decide, by decide⟩)) (by decide) (by decide)
    exact t_k_Ar_rotate_78 x4 x5 t0 x1 t0 (z_lushr t0 (x6 - (1 : Int32))) q hx4 hx5 (z_w z62028 (by decide) (by decide)) hq
  · have z62029 : y_in x1 (1) (1) := z_w (z_ne1 c62027 hx1 (by decide)) (by decide) (by decide)
    exact t_k_Ar_rotate_78 x4 x5 t0 x1 t0 t0 q hx4 hx5 (z_w z62029 (by decide) (by decide)) hq

set_option maxHeartbeats 4000000 in
set_option maxRecDepth 100000 in
theorem t_k_Ar_rotate_24 (x1 : Int32) (x2 : Int64) (x4 : Int32) (x5 : Int32) (x6 : Int32) (t0 : Int32) (q : z_Sg) (hx1 : y_in x1 (0) (1)) (hx4 : y_in x4 (1) (63)) (hx5 : y_in x5 (1) (8)) (hx6 : y_in x6 (8) (64)) (ht0 : y_in t0 (-55) (64)) (hq : iK q) : z_ok (k_Ar_rotate_24 x1 x2 x4 x5 x6 t0 q) (fun o : Int64 × z_Sg => iK o.2) := by
  unfold k_Ar_rotate_24
  refine z_ok_g (z_n0 hx6 (by decide)) ?_
  refine z_ok_n (fun n5 en5 => ?_)
  refine z_ok_i (fun c62030 => ?_) (fun c62030 => ?_)
  · have z62031 : y_in n5 (0) (0) := z_w (z_eq1 c62030 (show y_in (0 : Int32) (0) (0) from ⟨by decide, by decide⟩)) (by decide) (by decide)
    exact t_k_Ar_rotate_56 x1 x4 x5 x6 x2 q hx1 hx4 hx5 hx6 hq
  · refine z_ok_b (t_f_Ar_maskOf x5 q (z_w hx5 (by decide) (by decide)) hq) (fun r7 hr7 => ?_)
    exact t_k_Ar_rotate_56 x1 x4 x5 x6 (((z_lshl x2 n5) ||| (z_lushr x2 (x6 - n5))) &&& r7) q hx1 hx4 hx5 hx6 hq

set_option maxHeartbeats 4000000 in
set_option maxRecDepth 100000 in
theorem t_f_Ar_rotate (x1 : Int32) (x2 : Int64) (x4 : Int32) (x5 : Int32) (q : z_Sg) (hx1 : y_in x1 (0) (1)) (hx4 : y_in x4 (1) (63)) (hx5 : y_in x5 (1) (8)) (hq : iK q) : z_ok (f_Ar_rotate x1 x2 x4 x5 q) (fun o : Int64 × z_Sg => iK o.2) := by
  unfold f_Ar_rotate
  refine z_ok_n (fun n1 en1 => ?_)
  have hn1 : y_in n1 (8) (64) := z_e en1 (z_w (a' := 8) (b' := 64) (z_mul (show y_in (8 : Int32) (8) (8) from ⟨by decide, by decide⟩) hx5 (by decide) (by decide) (by decide)) (by decide) (by decide))
  refine z_ok_i (fun c62032 => ?_) (fun c62032 => ?_)
  · have z62033 : y_in x1 (0) (0) := z_w (z_eq1 c62032 (show y_in (0 : Int32) (0) (0) from ⟨by decide, by decide⟩)) (by decide) (by decide)
    refine z_ok_g (z_n0 hn1 (by decide)) ?_
    exact t_k_Ar_rotate_24 x1 x2 x4 x5 n1 (n1 - (x4 - ((x4 / n1) * n1))) q (z_w z62033 (by decide) (by decide)) hx4 hx5 hn1 (z_w (a' := -55) (b' := 64) (z_sub hn1 (z_modw hx4 hn1 (by decide) (by decide)) (by decide) (by decide)) (by decide) (by decide)) hq
  · have z62034 : y_in x1 (1) (1) := z_w (z_ne1 c62032 hx1 (by decide)) (by decide) (by decide)
    exact t_k_Ar_rotate_24 x1 x2 x4 x5 n1 x4 q (z_w z62034 (by decide) (by decide)) hx4 hx5 hn1 (z_w hx4 (by decide) (by decide)) hq

set_option maxHeartbeats 4000000 in
set_option maxRecDepth 100000 in
theorem t_k_Ar_rotateThroughCarry_97 (ih41 : Int32 × Int32 × Int32 × Int32 × Int32 × Int64 × Int64 × Int64 × Int32 × z_Sg → Option (Int64 × z_Sg)) (x1 : Int32) (x4 : Int32) (x5 : Int32) (x6 : Int32) (x7 : Int32) (x8 : Int64) (x14 : Int32) (x15 : Int64) (t0 : Int64) (q : z_Sg) (hi41 : ∀ (x1' : Int32) (x4' : Int32) (x5' : Int32) (x6' : Int32) (x7' : Int32) (x8' : Int64) (x10' : Int64) (x12' : Int64) (x14' : Int32) (q' : z_Sg), y_in x1' (0) (1) → y_in x4' (1) (63) → y_in x5' (1) (8) → y_in x6' (8) (64) → y_in x7' (0) (63) → y_in x14' (0) (64) → iK q' → (64 - x14'.toInt).toNat < (64 - x14.toInt).toNat → z_ok (ih41 (x1', x4', x5', x6', x7', x8', x10', x12', x14', q')) (fun o : Int64 × z_Sg => iK o.2)) (hx1 : y_in x1 (0) (1)) (hx4 : y_in x4 (1) (63)) (hx5 : y_in x5 (1) (8)) (hx6 : y_in x6 (8) (64)) (hx7 : y_in x7 (1) (63)) (hx14 : y_in x14 (0) (63)) (hq : iK q) : z_ok (k_Ar_rotateThroughCarry_97 ih41 x1 x4 x5 x6 x7 x8 x14 x15 t0 q) (fun o : Int64 × z_Sg => iK o.2) := by
  unfold k_Ar_rotateThroughCarry_97
  refine z_ok_n (fun n10 en10 => ?_)
  have hn10 : y_in n10 (1) (64) := z_e en10 (z_w (a' := 1) (b' := 64) (z_add hx14 (show y_in (1 : Int32) (1) (1) from ⟨by decide, by decide⟩) (by decide) (by decide)) (by decide) (by decide))
  exact hi41 x1 x4 x5 x6 x7 x8 x15 t0 n10 q hx1 hx4 hx5 hx6 (z_w hx7 (by decide) (by decide)) (z_w hn10 (by decide) (by decide)) hq (z_mu (64) 1 hx14 en10 (by decide) (by decide) (by decide) (by decide))

set_option maxHeartbeats 4000000 in
set_option maxRecDepth 100000 in
theorem t_k_Ar_rotateThroughCarry_66 (ih41 : Int32 × Int32 × Int32 × Int32 × Int32 × Int64 × Int64 × Int64 × Int32 × z_Sg → Option (Int64 × z_Sg)) (x1 : Int32) (x4 : Int32) (x5 : Int32) (x6 : Int32) (x7 : Int32) (x8 : Int64) (x10 : Int64) (x12 : Int64) (x14 : Int32) (t0 : Int64) (q : z_Sg) (hi41 : ∀ (x1' : Int32) (x4' : Int32) (x5' : Int32) (x6' : Int32) (x7' : Int32) (x8' : Int64) (x10' : Int64) (x12' : Int64) (x14' : Int32) (q' : z_Sg), y_in x1' (0) (1) → y_in x4' (1) (63) → y_in x5' (1) (8) → y_in x6' (8) (64) → y_in x7' (0) (63) → y_in x14' (0) (64) → iK q' → (64 - x14'.toInt).toNat < (64 - x14.toInt).toNat → z_ok (ih41 (x1', x4', x5', x6', x7', x8', x10', x12', x14', q')) (fun o : Int64 × z_Sg => iK o.2)) (hx1 : y_in x1 (0) (1)) (hx4 : y_in x4 (1) (63)) (hx5 : y_in x5 (1) (8)) (hx6 : y_in x6 (8) (64)) (hx7 : y_in x7 (1) (63)) (hx14 : y_in x14 (0) (63)) (hq : iK q) : z_ok (k_Ar_rotateThroughCarry_66 ih41 x1 x4 x5 x6 x7 x8 x10 x12 x14 t0 q) (fun o : Int64 × z_Sg => iK o.2) := by
  unfold k_Ar_rotateThroughCarry_66
  refine z_ok_i (fun c62035 => ?_) (fun c62035 => ?_)
  · have z62036 : y_in x1 (0) (0) := z_w (z_eq1 c62035 (show y_in (0 : Int32) (0) (0) from ⟨by decide, by decide⟩)) (by decide) (by decide)
    exact t_k_Ar_rotateThroughCarry_97 ih41 x1 x4 x5 x6 x7 x8 x14 t0 ((z_lushr x12 (1 : Int32)) ||| (z_lshl x10 (x6 - (1 : Int32)))) q hi41 (z_w z62036 (by decide) (by decide)) hx4 hx5 hx6 hx7 hx14 hq
  · have z62037 : y_in x1 (1) (1) := z_w (z_ne1 c62035 hx1 (by decide)) (by decide) (by decide)
    exact t_k_Ar_rotateThroughCarry_97 ih41 x1 x4 x5 x6 x7 x8 x14 t0 (((z_lshl x12 (1 : Int32)) ||| x10) &&& x8) q hi41 (z_w z62037 (by decide) (by decide)) hx4 hx5 hx6 hx7 hx14 hq

set_option maxHeartbeats 4000000 in
set_option maxRecDepth 100000 in
theorem t_kb_Ar_rotateThroughCarry_41 (ih41 : Int32 × Int32 × Int32 × Int32 × Int32 × Int64 × Int64 × Int64 × Int32 × z_Sg → Option (Int64 × z_Sg)) (x1 : Int32) (x4 : Int32) (x5 : Int32) (x6 : Int32) (x7 : Int32) (x8 : Int64) (x10 : Int64) (x12 : Int64) (x14 : Int32) (q : z_Sg) (hi41 : ∀ (x1' : Int32) (x4' : Int32) (x5' : Int32) (x6' : Int32) (x7' : Int32) (x8' : Int64) (x10' : Int64) (x12' : Int64) (x14' : Int32) (q' : z_Sg), y_in x1' (0) (1) → y_in x4' (1) (63) → y_in x5' (1) (8) → y_in x6' (8) (64) → y_in x7' (0) (63) → y_in x14' (0) (64) → iK q' → (64 - x14'.toInt).toNat < (64 - x14.toInt).toNat → z_ok (ih41 (x1', x4', x5', x6', x7', x8', x10', x12', x14', q')) (fun o : Int64 × z_Sg => iK o.2)) (hx1 : y_in x1 (0) (1)) (hx4 : y_in x4 (1) (63)) (hx5 : y_in x5 (1) (8)) (hx6 : y_in x6 (8) (64)) (hx7 : y_in x7 (0) (63)) (hx14 : y_in x14 (0) (64)) (hq : iK q) : z_ok (kb_Ar_rotateThroughCarry_41 ih41 x1 x4 x5 x6 x7 x8 x10 x12 x14 q) (fun o : Int64 × z_Sg => iK o.2) := by
  unfold kb_Ar_rotateThroughCarry_41
  refine z_ok_i (fun c62038 => ?_) (fun c62038 => ?_)
  · refine z_ok_b (t_f_Ar_settleRotation x1 x12 x10 x4 x5 q hx1 hx4 hx5 hq) (fun r7 hr7 => ?_)
    exact z_ok_s hr7
  · have z62039 : y_in x7 (1) (63) := z_w (z_nle1 c62038 hx7 hx14) (by decide) (by decide)
    have z62040 : y_in x14 (0) (62) := z_w (z_nle2 c62038 hx7 hx14) (by decide) (by decide)
    refine z_ok_i (fun c62041 => ?_) (fun c62041 => ?_)
    · have z62042 : y_in x1 (0) (0) := z_w (z_eq1 c62041 (show y_in (0 : Int32) (0) (0) from ⟨by decide, by decide⟩)) (by decide) (by decide)
      exact t_k_Ar_rotateThroughCarry_66 ih41 x1 x4 x5 x6 x7 x8 x10 x12 x14 (x12 &&& (1 : Int64)) q hi41 (z_w z62042 (by decide) (by decide)) hx4 hx5 hx6 z62039 (z_w z62040 (by decide) (by decide)) hq
    · have z62043 : y_in x1 (1) (1) := z_w (z_ne1 c62041 hx1 (by decide)) (by decide) (by decide)
      exact t_k_Ar_rotateThroughCarry_66 ih41 x1 x4 x5 x6 x7 x8 x10 x12 x14 (z_lushr x12 (x6 - (1 : Int32))) q hi41 (z_w z62043 (by decide) (by decide)) hx4 hx5 hx6 z62039 (z_w z62040 (by decide) (by decide)) hq

set_option maxHeartbeats 4000000 in
set_option maxRecDepth 100000 in
theorem t_k_Ar_rotateThroughCarry_41 (x1 : Int32) (x4 : Int32) (x5 : Int32) (x6 : Int32) (x7 : Int32) (x8 : Int64) (x10 : Int64) (x12 : Int64) (x14 : Int32) (q : z_Sg) (hx1 : y_in x1 (0) (1)) (hx4 : y_in x4 (1) (63)) (hx5 : y_in x5 (1) (8)) (hx6 : y_in x6 (8) (64)) (hx7 : y_in x7 (0) (63)) (hx14 : y_in x14 (0) (0)) (hq : iK q) : z_ok (k_Ar_rotateThroughCarry_41 x1 x4 x5 x6 x7 x8 x10 x12 x14 q) (fun o : Int64 × z_Sg => iK o.2) := by
  unfold k_Ar_rotateThroughCarry_41
  refine z_ok_l (fun a : Int32 × Int32 × Int32 × Int32 × Int32 × Int64 × Int64 × Int64 × Int32 × z_Sg => y_in a.1 (0) (1) ∧ y_in a.2.1 (1) (63) ∧ y_in a.2.2.1 (1) (8) ∧ y_in a.2.2.2.1 (8) (64) ∧ y_in a.2.2.2.2.1 (0) (63) ∧ y_in a.2.2.2.2.2.2.2.2.1 (0) (64) ∧ iK a.2.2.2.2.2.2.2.2.2) (fun a => (64 - a.2.2.2.2.2.2.2.2.1.toInt).toNat) ?_ (x1, x4, x5, x6, x7, x8, x10, x12, x14, q) ⟨hx1, hx4, hx5, hx6, hx7, (z_w hx14 (by decide) (by decide)), hq⟩ (by show ((64 - x14.toInt).toNat) < 2000; have z1 := hx14.1; have z2 := hx14.2; omega)
  intro ih a ha hih
  exact t_kb_Ar_rotateThroughCarry_41 ih a.1 a.2.1 a.2.2.1 a.2.2.2.1 a.2.2.2.2.1 a.2.2.2.2.2.1 a.2.2.2.2.2.2.1 a.2.2.2.2.2.2.2.1 a.2.2.2.2.2.2.2.2.1 a.2.2.2.2.2.2.2.2.2 (fun x1' x4' x5' x6' x7' x8' x10' x12' x14' q' hx1' hx4' hx5' hx6' hx7' hx14' hq' hm => hih (x1', x4', x5', x6', x7', x8', x10', x12', x14', q') ⟨hx1', hx4', hx5', hx6', hx7', hx14', hq'⟩ hm) ha.1 ha.2.1 ha.2.2.1 ha.2.2.2.1 ha.2.2.2.2.1 ha.2.2.2.2.2.1 ha.2.2.2.2.2.2

set_option maxHeartbeats 4000000 in
set_option maxRecDepth 100000 in
theorem t_f_Ar_rotateThroughCarry (x1 : Int32) (x2 : Int64) (x4 : Int32) (x5 : Int32) (q : z_Sg) (hx1 : y_in x1 (0) (1)) (hx4 : y_in x4 (1) (63)) (hx5 : y_in x5 (1) (8)) (hq : iK q) : z_ok (f_Ar_rotateThroughCarry x1 x2 x4 x5 q) (fun o : Int64 × z_Sg => iK o.2) := by
  unfold f_Ar_rotateThroughCarry
  refine z_ok_n (fun n1 en1 => ?_)
  have hn1 : y_in n1 (8) (64) := z_e en1 (z_w (a' := 8) (b' := 64) (z_mul (show y_in (8 : Int32) (8) (8) from ⟨by decide, by decide⟩) hx5 (by decide) (by decide) (by decide)) (by decide) (by decide))
  refine z_ok_g (z_n0 (z_w (a' := 9) (b' := 65) (z_add hn1 (show y_in (1 : Int32) (1) (1) from ⟨by decide, by decide⟩) (by decide) (by decide)) (by decide) (by decide)) (by decide)) ?_
  refine z_ok_n (fun n3 en3 => ?_)
  have hn3 : y_in n3 (0) (63) := z_e en3 (z_modw hx4 (z_w (a' := 9) (b' := 65) (z_add hn1 (show y_in (1 : Int32) (1) (1) from ⟨by decide, by decide⟩) (by decide) (by decide)) (by decide) (by decide)) (by decide) (by decide))
  refine z_ok_b (t_f_Ar_maskOf x5 q (z_w hx5 (by decide) (by decide)) hq) (fun r4 hr4 => ?_)
  refine z_ok_n (fun n5 en5 => ?_)
  exact t_k_Ar_rotateThroughCarry_41 x1 x4 x5 n1 n3 r4 n5 x2 (0 : Int32) q hx1 hx4 hx5 hn1 hn3 (show y_in (0 : Int32) (0) (0) from ⟨by decide, by decide⟩) hq

set_option maxHeartbeats 4000000 in
set_option maxRecDepth 100000 in
theorem t_k_Ar_settleShift_56 (x9 : Int32) (t0 : Int32) (t1 : Int32) (q : z_Sg) (hx9 : y_in x9 (0) (4095)) (ht0 : y_in t0 (0) (4095)) (ht1 : y_in t1 (0) (1)) (hq : iK q) : z_ok (k_Ar_settleShift_56 x9 t0 t1 q) (fun o : z_Sg => iK o) := by
  unfold k_Ar_settleShift_56
  refine z_ok_n (fun n5 en5 => ?_)
  have hn5 : y_in n5 (0) (4095) := z_e en5 (z_w (a' := 0) (b' := 4095) (z_or 12 ht0 ht1 (by decide) (by decide) (by decide) (by decide) (by decide)) (by decide) (by decide))
  refine z_ok_b (t_f_Ar_settle ((2261 : Int32) &&& (n5 ^^^ (-1 : Int32))) x9 n5 q (z_andl (show y_in (2261 : Int32) (2261) (2261) from ⟨by decide, by decide⟩) (by decide)) hx9 (z_w hn5 (by decide) (by decide)) hq) (fun r6 hr6 => ?_)
  exact z_ok_s hr6

set_option maxHeartbeats 4000000 in
set_option maxRecDepth 100000 in
theorem t_k_Ar_settleShift_40 (x7 : Int32) (x8 : Int32) (x9 : Int32) (t0 : Int32) (t1 : Int32) (q : z_Sg) (hx7 : y_in x7 (1) (63)) (hx8 : y_in x8 (1) (8)) (hx9 : y_in x9 (0) (4095)) (ht0 : y_in t0 (16) (16)) (ht1 : y_in t1 (0) (2048)) (hq : iK q) : z_ok (k_Ar_settleShift_40 x7 x8 x9 t0 t1 q) (fun o : z_Sg => iK o) := by
  unfold k_Ar_settleShift_40
  refine z_ok_i (fun c62044 => ?_) (fun c62044 => ?_)
  · exact t_k_Ar_settleShift_56 x9 (t0 ||| t1) (0 : Int32) q hx9 (z_w (a' := 0) (b' := 4095) (z_or 12 ht0 ht1 (by decide) (by decide) (by decide) (by decide) (by decide)) (by decide) (by decide)) (z_w (show y_in (0 : Int32) (0) (0) from ⟨by decide, by decide⟩) (by decide) (by decide)) hq
  · have z62045 : y_in x7 (9) (63) := z_w (z_nle1 c62044 hx7 (z_w (a' := 8) (b' := 64) (z_mul (show y_in (8 : Int32) (8) (8) from ⟨by decide, by decide⟩) hx8 (by decide) (by decide) (by decide)) (by decide) (by decide))) (by decide) (by decide)
    have z62046 : y_in ((8 : Int32) * x8) (8) (62) := z_w (z_nle2 c62044 hx7 (z_w (a' := 8) (b' := 64) (z_mul (show y_in (8 : Int32) (8) (8) from ⟨by decide, by decide⟩) hx8 (by decide) (by decide) (by decide)) (by decide) (by decide))) (by decide) (by decide)
    exact t_k_Ar_settleShift_56 x9 (t0 ||| t1) (1 : Int32) q hx9 (z_w (a' := 0) (b' := 4095) (z_or 12 ht0 ht1 (by decide) (by decide) (by decide) (by decide) (by decide)) (by decide) (by decide)) (z_w (show y_in (1 : Int32) (1) (1) from ⟨by decide, by decide⟩) (by decide) (by decide)) hq

set_option maxHeartbeats 4000000 in
set_option maxRecDepth 100000 in
theorem t_f_Ar_settleShift (x1 : Int64) (x3 : Int64) (x5 : Int64) (x7 : Int32) (x8 : Int32) (q : z_Sg) (hx7 : y_in x7 (1) (63)) (hx8 : y_in x8 (1) (8)) (hq : iK q) : z_ok (f_Ar_settleShift x1 x3 x5 x7 x8 q) (fun o : z_Sg => iK o) := by
  unfold f_Ar_settleShift
  refine z_ok_b (t_f_Ar_flagsOf x1 x8 q (z_w hx8 (by decide) (by decide)) hq) (fun r1 hr1 => ?_)
  refine z_ok_n (fun n2 en2 => ?_)
  have hn2 : y_in n2 (0) (4095) := z_e en2 (z_w (a' := 0) (b' := 4095) (z_or 12 (z_w (a' := 0) (b' := 255) (z_or 8 hr1 (z_w (a' := 0) (b' := 1) (z_mul (z_l2i (n := 1) rfl (by decide)) (show y_in (1 : Int32) (1) (1) from ⟨by decide, by decide⟩) (by decide) (by decide) (by decide)) (by decide) (by decide)) (by decide) (by decide) (by decide) (by decide) (by decide)) (by decide) (by decide)) (z_w (a' := 0) (b' := 2048) (z_mul (z_l2i (n := 1) rfl (by decide)) (show y_in (2048 : Int32) (2048) (2048) from ⟨by decide, by decide⟩) (by decide) (by decide) (by decide)) (by decide) (by decide)) (by decide) (by decide) (by decide) (by decide) (by decide)) (by decide) (by decide))
  refine z_ok_i (fun c62047 => ?_) (fun c62047 => ?_)
  · have z62048 : y_in x7 (1) (1) := z_w (z_eq1 c62047 (show y_in (1 : Int32) (1) (1) from ⟨by decide, by decide⟩)) (by decide) (by decide)
    exact t_k_Ar_settleShift_40 x7 x8 n2 (16 : Int32) (0 : Int32) q (z_w z62048 (by decide) (by decide)) hx8 hn2 (show y_in (16 : Int32) (16) (16) from ⟨by decide, by decide⟩) (z_w (show y_in (0 : Int32) (0) (0) from ⟨by decide, by decide⟩) (by decide) (by decide)) hq
  · have z62049 : y_in x7 (2) (63) := z_w (z_ne1 c62047 hx7 (by decide)) (by decide) (by decide)
    exact t_k_Ar_settleShift_40 x7 x8 n2 (16 : Int32) (2048 : Int32) q (z_w z62049 (by decide) (by decide)) hx8 hn2 (show y_in (16 : Int32) (16) (16) from ⟨by decide, by decide⟩) (z_w (show y_in (2048 : Int32) (2048) (2048) from ⟨by decide, by decide⟩) (by decide) (by decide)) hq

set_option maxHeartbeats 4000000 in
set_option maxRecDepth 100000 in
theorem t_k_Ar_shiftLeft_34 (x3 : Int32) (x4 : Int32) (x5 : Int32) (x6 : Int64) (t0 : Int64) (q : z_Sg) (hx3 : y_in x3 (1) (63)) (hx4 : y_in x4 (1) (8)) (hx5 : y_in x5 (8) (64)) (hq : iK q) : z_ok (k_Ar_shiftLeft_34 x3 x4 x5 x6 t0 q) (fun o : Int64 × z_Sg => iK o.2) := by
  unfold k_Ar_shiftLeft_34
  refine z_ok_b (t_f_Ar_settleShift x6 t0 ((z_lushr x6 (x5 - (1 : Int32))) ^^^ t0) x3 x4 q hx3 hx4 hq) (fun r5 hr5 => ?_)
  exact z_ok_s hr5

set_option maxHeartbeats 4000000 in
set_option maxRecDepth 100000 in
theorem t_f_Ar_shiftLeft (x1 : Int64) (x3 : Int32) (x4 : Int32) (q : z_Sg) (hx3 : y_in x3 (1) (63)) (hx4 : y_in x4 (1) (8)) (hq : iK q) : z_ok (f_Ar_shiftLeft x1 x3 x4 q) (fun o : Int64 × z_Sg => iK o.2) := by
  unfold f_Ar_shiftLeft
  refine z_ok_n (fun n1 en1 => ?_)
  have hn1 : y_in n1 (8) (64) := z_e en1 (z_w (a' := 8) (b' := 64) (z_mul (show y_in (8 : Int32) (8) (8) from ⟨by decide, by decide⟩) hx4 (by decide) (by decide) (by decide)) (by decide) (by decide))
  refine z_ok_b (t_f_Ar_maskOf x4 q (z_w hx4 (by decide) (by decide)) hq) (fun r2 hr2 => ?_)
  refine z_ok_n (fun n3 en3 => ?_)
  refine z_ok_i (fun c62050 => ?_) (fun c62050 => ?_)
  · exact t_k_Ar_shiftLeft_34 x3 x4 n1 n3 (z_lushr x1 (n1 - x3)) q hx3 hx4 hn1 hq
  · have z62051 : y_in x3 (9) (63) := z_w (z_nle1 c62050 hx3 hn1) (by decide) (by decide)
    have z62052 : y_in n1 (8) (62) := z_w (z_nle2 c62050 hx3 hn1) (by decide) (by decide)
    exact t_k_Ar_shiftLeft_34 x3 x4 n1 n3 (0 : Int64) q (z_w z62051 (by decide) (by decide)) hx4 (z_w z62052 (by decide) (by decide)) hq

set_option maxHeartbeats 4000000 in
set_option maxRecDepth 100000 in
theorem t_f_Ar_shiftRight (x1 : Int64) (x3 : Int32) (x4 : Int32) (q : z_Sg) (hx3 : y_in x3 (1) (63)) (hx4 : y_in x4 (1) (8)) (hq : iK q) : z_ok (f_Ar_shiftRight x1 x3 x4 q) (fun o : Int64 × z_Sg => iK o.2) := by
  unfold f_Ar_shiftRight
  refine z_ok_n (fun n1 en1 => ?_)
  refine z_ok_b (t_f_Ar_settleShift n1 (z_lushr x1 (x3 - (1 : Int32))) (z_lushr x1 (((8 : Int32) * x4) - (1 : Int32))) x3 x4 q hx3 hx4 hq) (fun r2 hr2 => ?_)
  exact z_ok_s hr2

set_option maxHeartbeats 4000000 in
set_option maxRecDepth 100000 in
theorem t_f_Ar_shiftSigned (x1 : Int64) (x3 : Int32) (x4 : Int32) (q : z_Sg) (hx3 : y_in x3 (1) (63)) (hx4 : y_in x4 (1) (8)) (hq : iK q) : z_ok (f_Ar_shiftSigned x1 x3 x4 q) (fun o : Int64 × z_Sg => iK o.2) := by
  unfold f_Ar_shiftSigned
  refine z_ok_b (t_f_Ar_signed x1 x4 q (z_w hx4 (by decide) (by decide)) hq) (fun r1 hr1 => ?_)
  refine z_ok_b (t_f_Ar_maskOf x4 q (z_w hx4 (by decide) (by decide)) hq) (fun r2 hr2 => ?_)
  refine z_ok_n (fun n3 en3 => ?_)
  refine z_ok_b (t_f_Ma_min (e := 1) (f := 63) x3 ((8 : Int32) * x4) q hx3 (z_w (a' := 8) (b' := 64) (z_mul (show y_in (8 : Int32) (8) (8) from ⟨by decide, by decide⟩) hx4 (by decide) (by decide) (by decide)) (by decide) (by decide)) (by decide) (by decide)) (fun r4 hr4 => ?_)
  refine z_ok_b (t_f_Ar_settleShift n3 (z_lshr r1 (x3 - (1 : Int32))) (0 : Int64) r4 x4 q hr4 hx4 hq) (fun r5 hr5 => ?_)
  exact z_ok_s hr5

set_option maxHeartbeats 4000000 in
set_option maxRecDepth 100000 in
theorem t_k_Ar_shift_16 (x1 : Int32) (x2 : Int64) (x5 : Int32) (t0 : Int32) (t1 : Int32) (q : z_Sg) (hx1 : y_in x1 (0) (7)) (hx5 : y_in x5 (1) (8)) (ht1 : y_in t1 (31) (63)) (hq : iK q) : z_ok (k_Ar_shift_16 x1 x2 x5 t0 t1 q) (fun o : Int64 × z_Sg => iK o.2) := by
  unfold k_Ar_shift_16
  refine z_ok_n (fun n2 en2 => ?_)
  have hn2 : y_in n2 (0) (63) := z_e en2 (z_and ht1 (by decide))
  refine z_ok_i (fun c62053 => ?_) (fun c62053 => ?_)
  · have z62054 : y_in n2 (0) (0) := z_w (z_eq1 c62053 (show y_in (0 : Int32) (0) (0) from ⟨by decide, by decide⟩)) (by decide) (by decide)
    exact z_ok_s hq
  · have z62055 : y_in n2 (1) (63) := z_w (z_ne1 c62053 hn2 (by decide)) (by decide) (by decide)
    refine z_ok_i (fun c62056 => ?_) (fun c62056 => ?_)
    · have z62057 : y_in x1 (0) (0) := z_w (z_eq1 c62056 (show y_in (0 : Int32) (0) (0) from ⟨by decide, by decide⟩)) (by decide) (by decide)
      refine z_ok_b (t_f_Ar_rotate (1 : Int32) x2 n2 x5 q (z_w (show y_in (1 : Int32) (1) (1) from ⟨by decide, by decide⟩) (by decide) (by decide)) z62055 hx5 hq) (fun r5 hr5 => ?_)
      exact z_ok_s hr5
    · have z62058 : y_in x1 (1) (7) := z_w (z_ne1 c62056 hx1 (by decide)) (by decide) (by decide)
      refine z_ok_i (fun c62059 => ?_) (fun c62059 => ?_)
      · have z62060 : y_in x1 (1) (1) := z_w (z_eq1 c62059 (show y_in (1 : Int32) (1) (1) from ⟨by decide, by decide⟩)) (by decide) (by decide)
        refine z_ok_b (t_f_Ar_rotate (0 : Int32) x2 n2 x5 q (z_w (show y_in (0 : Int32) (0) (0) from ⟨by decide, by decide⟩) (by decide) (by decide)) z62055 hx5 hq) (fun r7 hr7 => ?_)
        exact z_ok_s hr7
      · have z62061 : y_in x1 (2) (7) := z_w (z_ne1 c62059 z62058 (by decide)) (by decide) (by decide)
        refine z_ok_i (fun c62062 => ?_) (fun c62062 => ?_)
        · have z62063 : y_in x1 (2) (2) := z_w (z_eq1 c62062 (show y_in (2 : Int32) (2) (2) from ⟨by decide, by decide⟩)) (by decide) (by decide)
          refine z_ok_b (t_f_Ar_rotateThroughCarry (1 : Int32) x2 n2 x5 q (z_w (show y_in (1 : Int32) (1) (1) from ⟨by decide, by decide⟩) (by decide) (by decide)) z62055 hx5 hq) (fun r9 hr9 => ?_)
          exact z_ok_s hr9
        · have z62064 : y_in x1 (3) (7) := z_w (z_ne1 c62062 z62061 (by decide)) (by decide) (by decide)
          refine z_ok_i (fun c62065 => ?_) (fun c62065 => ?_)
          · have z62066 : y_in x1 (3) (3) := z_w (z_eq1 c62065 (show y_in (3 : Int32) (3) (3) from ⟨by decide, by decide⟩)) (by decide) (by decide)
            refine z_ok_b (t_f_Ar_rotateThroughCarry (0 : Int32) x2 n2 x5 q (z_w (show y_in (0 : Int32) (0) (0) from ⟨by decide, by decide⟩) (by decide) (by decide)) z62055 hx5 hq) (fun r11 hr11 => ?_)
            exact z_ok_s hr11
          · have z62067 : y_in x1 (4) (7) := z_w (z_ne1 c62065 z62064 (by decide)) (by decide) (by decide)
            refine z_ok_i (fun c62068 => ?_) (fun c62068 => ?_)
            · have z62069 : y_in x1 (4) (4) := z_w (z_eq1 c62068 (show y_in (4 : Int32) (4) (4) from ⟨by decide, by decide⟩)) (by decide) (by decide)
              refine z_ok_b (t_f_Ar_shiftLeft x2 n2 x5 q z62055 hx5 hq) (fun r13 hr13 => ?_)
              exact z_ok_s hr13
            · have z62070 : y_in x1 (5) (7) := z_w (z_ne1 c62068 z62067 (by decide)) (by decide) (by decide)
              refine z_ok_i (fun c62071 => ?_) (fun c62071 => ?_)
              · have z62072 : y_in x1 (5) (5) := z_w (z_eq1 c62071 (show y_in (5 : Int32) (5) (5) from ⟨by decide, by decide⟩)) (by decide) (by decide)
                refine z_ok_b (t_f_Ar_shiftRight x2 n2 x5 q z62055 hx5 hq) (fun r15 hr15 => ?_)
                exact z_ok_s hr15
              · have z62073 : y_in x1 (6) (7) := z_w (z_ne1 c62071 z62070 (by decide)) (by decide) (by decide)
                refine z_ok_b (t_f_Ar_shiftSigned x2 n2 x5 q z62055 hx5 hq) (fun r16 hr16 => ?_)
                exact z_ok_s hr16

set_option maxHeartbeats 4000000 in
set_option maxRecDepth 100000 in
theorem t_f_Ar_shift (x1 : Int32) (x2 : Int64) (x4 : Int32) (x5 : Int32) (q : z_Sg) (hx1 : y_in x1 (0) (7)) (hx5 : y_in x5 (1) (8)) (hq : iK q) : z_ok (f_Ar_shift x1 x2 x4 x5 q) (fun o : Int64 × z_Sg => iK o.2) := by
  unfold f_Ar_shift
  refine z_ok_i (fun c62074 => ?_) (fun c62074 => ?_)
  · have z62075 : y_in x5 (8) (8) := z_w (z_eq1 c62074 (show y_in (8 : Int32) (8) (8) from ⟨by decide, by decide⟩)) (by decide) (by decide)
    exact t_k_Ar_shift_16 x1 x2 x5 x4 (63 : Int32) q hx1 (z_w z62075 (by decide) (by decide)) (z_w (show y_in (63 : Int32) (63) (63) from ⟨by decide, by decide⟩) (by decide) (by decide)) hq
  · have z62076 : y_in x5 (1) (7) := z_w (z_ne2 c62074 hx5 (by decide)) (by decide) (by decide)
    exact t_k_Ar_shift_16 x1 x2 x5 x4 (31 : Int32) q hx1 (z_w z62076 (by decide) (by decide)) (z_w (show y_in (31 : Int32) (31) (31) from ⟨by decide, by decide⟩) (by decide) (by decide)) hq

set_option maxHeartbeats 4000000 in
set_option maxRecDepth 100000 in
theorem t_k_Ar_neighbour_36 (x5 : Int32) (t0 : Int64) (q : z_Sg) (hx5 : y_in x5 (0) (1)) (hq : iK q) : z_ok (k_Ar_neighbour_36 x5 t0 q) (fun o : Int64 × z_Sg => iK o.2) := by
  unfold k_Ar_neighbour_36
  refine z_ok_b (t_f_Ar_settle (1 : Int32) x5 (0 : Int32) q (z_w (show y_in (1 : Int32) (1) (1) from ⟨by decide, by decide⟩) (by decide) (by decide)) (z_w hx5 (by decide) (by decide)) (z_w (show y_in (0 : Int32) (0) (0) from ⟨by decide, by decide⟩) (by decide) (by decide)) hq) (fun r4 hr4 => ?_)
  exact z_ok_s hr4

set_option maxHeartbeats 4000000 in
set_option maxRecDepth 100000 in
theorem t_f_Ar_neighbour (x1 : Int64) (x3 : Int32) (x4 : Int32) (q : z_Sg) (hx3 : y_in x3 (0) (1)) (hx4 : y_in x4 (1) (8)) (hq : iK q) : z_ok (f_Ar_neighbour x1 x3 x4 q) (fun o : Int64 × z_Sg => iK o.2) := by
  unfold f_Ar_neighbour
  refine z_ok_n (fun n1 en1 => ?_)
  have hn1 : y_in n1 (0) (1) := z_e en1 (z_and (show y_in (1 : Int32) (1) (1) from ⟨by decide, by decide⟩) (by decide))
  refine z_ok_i (fun c62077 => ?_) (fun c62077 => ?_)
  · have z62078 : y_in x3 (0) (0) := z_w (z_eq1 c62077 (show y_in (0 : Int32) (0) (0) from ⟨by decide, by decide⟩)) (by decide) (by decide)
    refine z_ok_b (t_f_Ar_difference x1 (1 : Int64) (0 : Int64) x4 q (z_w hx4 (by decide) (by decide)) hq) (fun r3 hr3 => ?_)
    exact t_k_Ar_neighbour_36 n1 r3.1 r3.2 hn1 hr3
  · have z62079 : y_in x3 (1) (1) := z_w (z_ne1 c62077 hx3 (by decide)) (by decide) (by decide)
    refine z_ok_b (t_f_Ar_sum x1 (1 : Int64) (0 : Int64) x4 q (z_w hx4 (by decide) (by decide)) hq) (fun r5 hr5 => ?_)
    exact t_k_Ar_neighbour_36 n1 r5.1 r5.2 hn1 hr5

set_option maxHeartbeats 4000000 in
set_option maxRecDepth 100000 in
theorem t_k_On_move_327 (q : z_Sg) (hq : iK q) : z_ok (k_On_move_327 q) (fun o : z_Sg => iK o) := by
  unfold k_On_move_327
  exact z_ok_s hq

set_option maxHeartbeats 4000000 in
set_option maxRecDepth 100000 in
theorem t_k_On_move_140 (x1 : Int32) (q : z_Sg) (hx1 : y_in x1 (1) (8)) (hq : iK q) : z_ok (k_On_move_140 x1 q) (fun o : z_Sg => iK o) := by
  unfold k_On_move_140
  refine z_ok_b (t_f_Op_value q hq) (fun r6 hr6 => ?_)
  refine z_ok_b (t_f_Op_g x1 q (z_w hx1 (by decide) (by decide)) hq) (fun r7 hr7 => ?_)
  refine z_ok_b (t_f_Op_put r7 q hq) (fun r8 hr8 => ?_)
  refine z_ok_b (t_f_Op_putG r6 x1 r8 (z_w hx1 (by decide) (by decide)) hr8) (fun r9 hr9 => ?_)
  exact t_k_On_move_327 r9 hr9

set_option maxHeartbeats 4000000 in
set_option maxRecDepth 100000 in
theorem t_k_On_move_175 (x1 : Int32) (q : z_Sg) (hx1 : y_in x1 (1) (8)) (hq : iK q) : z_ok (k_On_move_175 x1 q) (fun o : z_Sg => iK o) := by
  unfold k_On_move_175
  refine z_ok_b (t_f_Op_g x1 q (z_w hx1 (by decide) (by decide)) hq) (fun r12 hr12 => ?_)
  refine z_ok_b (t_f_Op_put r12 q hq) (fun r13 hr13 => ?_)
  exact t_k_On_move_327 r13 hr13

set_option maxHeartbeats 4000000 in
set_option maxRecDepth 100000 in
theorem t_k_On_move_193 (x1 : Int32) (q : z_Sg) (hx1 : y_in x1 (1) (8)) (hq : iK q) : z_ok (k_On_move_193 x1 q) (fun o : z_Sg => iK o) := by
  unfold k_On_move_193
  refine z_ok_b (t_f_Op_value q hq) (fun r16 hr16 => ?_)
  refine z_ok_b (t_f_Op_putG r16 x1 q (z_w hx1 (by decide) (by decide)) hq) (fun r17 hr17 => ?_)
  exact t_k_On_move_327 r17 hr17

set_option maxHeartbeats 4000000 in
set_option maxRecDepth 100000 in
theorem t_k_On_move_303 (x1 : Int32) (t1 : Int32) (t2 : Int64) (q : z_Sg) (hx1 : y_in x1 (1) (8)) (ht1 : y_in t1 (2) (2)) (ht2 : y_il t2 (-1) (0)) (hq : iK q) : z_ok (k_On_move_303 x1 t1 t2 q) (fun o : z_Sg => iK o) := by
  unfold k_On_move_303
  refine z_ok_b (t_f_Op_putPart t1 t2 x1 q (z_w ht1 (by decide) (by decide)) (z_w hx1 (by decide) (by decide)) hq) (fun r32 hr32 => ?_)
  exact t_k_On_move_327 r32 hr32

set_option maxHeartbeats 4000000 in
set_option maxRecDepth 100000 in
theorem t_k_On_move_310 (q : z_Sg) (hq : iK q) : z_ok (k_On_move_310 q) (fun o : z_Sg => iK o) := by
  unfold k_On_move_310
  refine z_ok_b (t_f_Op_put (z_gL q 9) q hq) (fun r34 hr34 => ?_)
  exact t_k_On_move_327 r34 hr34

set_option maxHeartbeats 4000000 in
set_option maxRecDepth 100000 in
theorem t_f_On_move (x1 : Int32) (q : z_Sg) (hx1 : y_in x1 (1) (8)) (hq : iK q) : z_ok (f_On_move x1 q) (fun o : z_Sg => iK o) := by
  unfold f_On_move
  refine z_ok_i (fun c62080 => ?_) (fun c62080 => ?_)
  · have z62081 : y_in (z_gI q 11) (99) (99) := z_w (z_eq1 c62080 (show y_in (99 : Int32) (99) (99) from ⟨by decide, by decide⟩)) (by decide) (by decide)
    refine z_ok_b (t_f_Op_value q hq) (fun r2 hr2 => ?_)
    refine z_ok_b (t_f_Ar_signed r2 (z_gI q 15) q (iK_f15 hq) hq) (fun r3 hr3 => ?_)
    refine z_ok_b (t_f_Op_putG r3 x1 q (z_w hx1 (by decide) (by decide)) hq) (fun r4 hr4 => ?_)
    exact t_k_On_move_327 r4 hr4
  · refine z_ok_i (fun c62082 => ?_) (fun c62082 => ?_)
    · have z62083 : y_in (z_gI q 11) (134) (134) := z_w (z_eq1 c62082 (show y_in (134 : Int32) (134) (134) from ⟨by decide, by decide⟩)) (by decide) (by decide)
      exact t_k_On_move_140 x1 q hx1 hq
    · refine z_ok_i (fun c62084 => ?_) (fun c62084 => ?_)
      · have z62085 : y_in (z_gI q 11) (135) (135) := z_w (z_eq1 c62084 (show y_in (135 : Int32) (135) (135) from ⟨by decide, by decide⟩)) (by decide) (by decide)
        exact t_k_On_move_140 x1 q hx1 hq
      · refine z_ok_i (fun c62086 => ?_) (fun c62086 => ?_)
        · have z62087 : y_in (z_gI q 11) (136) (136) := z_w (z_eq1 c62086 (show y_in (136 : Int32) (136) (136) from ⟨by decide, by decide⟩)) (by decide) (by decide)
          exact t_k_On_move_175 x1 q hx1 hq
        · refine z_ok_i (fun c62088 => ?_) (fun c62088 => ?_)
          · have z62089 : y_in (z_gI q 11) (137) (137) := z_w (z_eq1 c62088 (show y_in (137 : Int32) (137) (137) from ⟨by decide, by decide⟩)) (by decide) (by decide)
            exact t_k_On_move_175 x1 q hx1 hq
          · refine z_ok_i (fun c62090 => ?_) (fun c62090 => ?_)
            · have z62091 : y_in (z_gI q 11) (138) (138) := z_w (z_eq1 c62090 (show y_in (138 : Int32) (138) (138) from ⟨by decide, by decide⟩)) (by decide) (by decide)
              exact t_k_On_move_193 x1 q hx1 hq
            · refine z_ok_i (fun c62092 => ?_) (fun c62092 => ?_)
              · have z62093 : y_in (z_gI q 11) (139) (139) := z_w (z_eq1 c62092 (show y_in (139 : Int32) (139) (139) from ⟨by decide, by decide⟩)) (by decide) (by decide)
                exact t_k_On_move_193 x1 q hx1 hq
              · refine z_ok_i (fun c62094 => ?_) (fun c62094 => ?_)
                · have z62095 : y_in (z_gI q 11) (141) (141) := z_w (z_eq1 c62094 (show y_in (141 : Int32) (141) (141) from ⟨by decide, by decide⟩)) (by decide) (by decide)
                  refine z_ok_b (t_f_De_placeOfE (0 : Int64) q hq) (fun r20 hr20 => ?_)
                  refine z_ok_b (t_f_Op_putG r20 x1 q (z_w hx1 (by decide) (by decide)) hq) (fun r21 hr21 => ?_)
                  exact t_k_On_move_327 r21 hr21
                · refine z_ok_i (fun c62096 => ?_) (fun c62096 => ?_)
                  · have z62097 : y_in (z_gI q 11) (152) (152) := z_w (z_eq1 c62096 (show y_in (152 : Int32) (152) (152) from ⟨by decide, by decide⟩)) (by decide) (by decide)
                    refine z_ok_g (z_nbad (show y_in (0 : Int32) (0) (0) from ⟨by decide, by decide⟩) (by decide)) ?_
                    refine z_ok_b (t_f_De_sizeV q hq) (fun r24 hr24 => ?_)
                    refine z_ok_b (t_f_Ar_signed (z_gM q 0 (0 : Int32).toNatClampNeg) (r24 / (2 : Int32)) q (z_w (z_w (a' := 0) (b' := 4) (z_div 2 hr24 (by decide) rfl (by decide) (by decide)) (by decide) (by decide)) (by decide) (by decide)) hq) (fun r25 hr25 => ?_)
                    refine z_ok_b (t_f_De_sizeV q hq) (fun r26 hr26 => ?_)
                    refine z_ok_b (t_f_Op_putPart (0 : Int32) r25 r26 q (z_w (show y_in (0 : Int32) (0) (0) from ⟨by decide, by decide⟩) (by decide) (by decide)) (z_w hr26 (by decide) (by decide)) hq) (fun r27 hr27 => ?_)
                    exact t_k_On_move_327 r27 hr27
                  · refine z_ok_i (fun c62098 => ?_) (fun c62098 => ?_)
                    · have z62099 : y_in (z_gI q 11) (153) (153) := z_w (z_eq1 c62098 (show y_in (153 : Int32) (153) (153) from ⟨by decide, by decide⟩)) (by decide) (by decide)
                      refine z_ok_g (z_nbad (show y_in (0 : Int32) (0) (0) from ⟨by decide, by decide⟩) (by decide)) ?_
                      refine z_ok_b (t_f_Ar_signed (z_gM q 0 (0 : Int32).toNatClampNeg) x1 q (z_w hx1 (by decide) (by decide)) hq) (fun r30 hr30 => ?_)
                      refine z_ok_i (fun c62100 => ?_) (fun c62100 => ?_)
                      · exact t_k_On_move_303 x1 (2 : Int32) (0 : Int64) q hx1 (show y_in (2 : Int32) (2) (2) from ⟨by decide, by decide⟩) (z_lw (show y_il (0 : Int64) (0) (0) from ⟨by decide, by decide⟩) (by decide) (by decide)) hq
                      · exact t_k_On_move_303 x1 (2 : Int32) (-1 : Int64) q hx1 (show y_in (2 : Int32) (2) (2) from ⟨by decide, by decide⟩) (z_lw (show y_il (-1 : Int64) (-1) (-1) from ⟨by decide, by decide⟩) (by decide) (by decide)) hq
                    · refine z_ok_i (fun c62101 => ?_) (fun c62101 => ?_)
                      · have z62102 : y_in (z_gI q 11) (198) (198) := z_w (z_eq1 c62101 (show y_in (198 : Int32) (198) (198) from ⟨by decide, by decide⟩)) (by decide) (by decide)
                        exact t_k_On_move_310 q hq
                      · refine z_ok_i (fun c62103 => ?_) (fun c62103 => ?_)
                        · have z62104 : y_in (z_gI q 11) (199) (199) := z_w (z_eq1 c62103 (show y_in (199 : Int32) (199) (199) from ⟨by decide, by decide⟩)) (by decide) (by decide)
                          exact t_k_On_move_310 q hq
                        · exact t_k_On_move_327 q hq

set_option maxHeartbeats 4000000 in
set_option maxRecDepth 100000 in
theorem t_k_On_executeSingle_432 (q : z_Sg) (hq : iK q) : z_ok (k_On_executeSingle_432 q) (fun o : z_Sg => iK o) := by
  unfold k_On_executeSingle_432
  exact z_ok_s hq

set_option maxHeartbeats 4000000 in
set_option maxRecDepth 100000 in
theorem t_k_On_executeSingle_168 (x1 : Int32) (q : z_Sg) (hx1 : y_in x1 (1) (8)) (hq : iK q) : z_ok (k_On_executeSingle_168 x1 q) (fun o : z_Sg => iK o) := by
  unfold k_On_executeSingle_168
  refine z_ok_b (t_f_Op_value q hq) (fun r2 hr2 => ?_)
  refine z_ok_b (t_f_Wi_multiply r2 (z_gL q 9) x1 (1 : Int32) q (z_w hx1 (by decide) (by decide)) (z_w (show y_in (1 : Int32) (1) (1) from ⟨by decide, by decide⟩) (by decide) (by decide)) hq) (fun r3 hr3 => ?_)
  refine z_ok_b (t_f_Op_putG (z_gL r3 11) x1 r3 (z_w hx1 (by decide) (by decide)) hr3) (fun r4 hr4 => ?_)
  exact t_k_On_executeSingle_432 r4 hr4

set_option maxHeartbeats 4000000 in
set_option maxRecDepth 100000 in
theorem t_k_On_executeSingle_209 (x1 : Int32) (q : z_Sg) (hx1 : y_in x1 (1) (8)) (hq : iK q) : z_ok (k_On_executeSingle_209 x1 q) (fun o : z_Sg => iK o) := by
  unfold k_On_executeSingle_209
  refine z_ok_b (t_f_Op_value q hq) (fun r7 hr7 => ?_)
  refine z_ok_b (t_f_Op_g x1 q (z_w hx1 (by decide) (by decide)) hq) (fun r8 hr8 => ?_)
  refine z_ok_b (t_f_Ar_logic (r7 &&& r8) x1 q (z_w hx1 (by decide) (by decide)) hq) (fun r9 hr9 => ?_)
  exact t_k_On_executeSingle_432 r9.2 hr9

set_option maxHeartbeats 4000000 in
set_option maxRecDepth 100000 in
theorem t_k_On_executeSingle_237 (x1 : Int32) (q : z_Sg) (hx1 : y_in x1 (1) (8)) (hq : iK q) : z_ok (k_On_executeSingle_237 x1 q) (fun o : z_Sg => iK o) := by
  unfold k_On_executeSingle_237
  refine z_ok_b (t_f_Op_part (0 : Int32) x1 q (z_w (show y_in (0 : Int32) (0) (0) from ⟨by decide, by decide⟩) (by decide) (by decide)) (z_w hx1 (by decide) (by decide)) hq) (fun r12 hr12 => ?_)
  refine z_ok_b (t_f_Ar_logic (r12 &&& (z_gL q 9)) x1 q (z_w hx1 (by decide) (by decide)) hq) (fun r13 hr13 => ?_)
  exact t_k_On_executeSingle_432 r13.2 hr13

set_option maxHeartbeats 4000000 in
set_option maxRecDepth 100000 in
theorem t_k_On_executeSingle_266 (x1 : Int32) (q : z_Sg) (hx1 : y_in x1 (1) (8)) (hq : iK q) : z_ok (k_On_executeSingle_266 x1 q) (fun o : z_Sg => iK o) := by
  unfold k_On_executeSingle_266
  refine z_ok_b (t_f_Op_value q hq) (fun r16 hr16 => ?_)
  refine z_ok_b (t_f_On_countOfShift q hq) (fun r17 hr17 => ?_)
  refine z_ok_b (t_f_Ar_shift (z_gI q 13) r16 r17 x1 q (iK_f13 hq) hx1 hq) (fun r18 hr18 => ?_)
  refine z_ok_b (t_f_Op_put r18.1 r18.2 hr18) (fun r19 hr19 => ?_)
  exact t_k_On_executeSingle_432 r19 hr19

set_option maxHeartbeats 4000000 in
set_option maxRecDepth 100000 in
theorem t_k_On_executeSingle_332 (x1 : Int32) (t2 : Int64) (t3 : Int32) (q : z_Sg) (hx1 : y_in x1 (1) (8)) (ht3 : y_in t3 (0) (1)) (hq : iK q) : z_ok (k_On_executeSingle_332 x1 t2 t3 q) (fun o : z_Sg => iK o) := by
  unfold k_On_executeSingle_332
  refine z_ok_b (t_f_Ar_neighbour t2 t3 x1 q ht3 hx1 hq) (fun r38 hr38 => ?_)
  refine z_ok_b (t_f_Op_put r38.1 r38.2 hr38) (fun r39 hr39 => ?_)
  exact t_k_On_executeSingle_432 r39 hr39

set_option maxHeartbeats 4000000 in
set_option maxRecDepth 100000 in
theorem t_k_On_executeSingle_302 (x1 : Int32) (q : z_Sg) (hx1 : y_in x1 (1) (8)) (hq : iK q) : z_ok (k_On_executeSingle_302 x1 q) (fun o : z_Sg => iK o) := by
  unfold k_On_executeSingle_302
  refine z_ok_b (t_f_Op_value q hq) (fun r36 hr36 => ?_)
  refine z_ok_i (fun c62105 => ?_) (fun c62105 => ?_)
  · have z62106 : y_in (z_gI q 13) (0) (0) := z_w (z_eq1 c62105 (show y_in (0 : Int32) (0) (0) from ⟨by decide, by decide⟩)) (by decide) (by decide)
    exact t_k_On_executeSingle_332 x1 r36 (1 : Int32) q hx1 (z_w (show y_in (1 : Int32) (1) (1) from ⟨by decide, by decide⟩) (by decide) (by decide)) hq
  · have z62107 : y_in (z_gI q 13) (1) (7) := z_w (z_ne1 c62105 (iK_f13 hq) (by decide)) (by decide) (by decide)
    exact t_k_On_executeSingle_332 x1 r36 (0 : Int32) q hx1 (z_w (show y_in (0 : Int32) (0) (0) from ⟨by decide, by decide⟩) (by decide) (by decide)) hq

set_option maxHeartbeats 4000000 in
set_option maxRecDepth 100000 in
theorem t_f_On_executeSingle (x1 : Int32) (q : z_Sg) (hx1 : y_in x1 (1) (8)) (hq : iK q) : z_ok (f_On_executeSingle x1 q) (fun o : z_Sg => iK o) := by
  unfold f_On_executeSingle
  refine z_ok_i (fun c62108 => ?_) (fun c62108 => ?_)
  · have z62109 : y_in (z_gI q 11) (105) (105) := z_w (z_eq1 c62108 (show y_in (105 : Int32) (105) (105) from ⟨by decide, by decide⟩)) (by decide) (by decide)
    exact t_k_On_executeSingle_168 x1 q hx1 hq
  · refine z_ok_i (fun c62110 => ?_) (fun c62110 => ?_)
    · have z62111 : y_in (z_gI q 11) (107) (107) := z_w (z_eq1 c62110 (show y_in (107 : Int32) (107) (107) from ⟨by decide, by decide⟩)) (by decide) (by decide)
      exact t_k_On_executeSingle_168 x1 q hx1 hq
    · refine z_ok_i (fun c62112 => ?_) (fun c62112 => ?_)
      · have z62113 : y_in (z_gI q 11) (132) (132) := z_w (z_eq1 c62112 (show y_in (132 : Int32) (132) (132) from ⟨by decide, by decide⟩)) (by decide) (by decide)
        exact t_k_On_executeSingle_209 x1 q hx1 hq
      · refine z_ok_i (fun c62114 => ?_) (fun c62114 => ?_)
        · have z62115 : y_in (z_gI q 11) (133) (133) := z_w (z_eq1 c62114 (show y_in (133 : Int32) (133) (133) from ⟨by decide, by decide⟩)) (by decide) (by decide)
          exact t_k_On_executeSingle_209 x1 q hx1 hq
        · refine z_ok_i (fun c62116 => ?_) (fun c62116 => ?_)
          · have z62117 : y_in (z_gI q 11) (168) (168) := z_w (z_eq1 c62116 (show y_in (168 : Int32) (168) (168) from ⟨by decide, by decide⟩)) (by decide) (by decide)
            exact t_k_On_executeSingle_237 x1 q hx1 hq
          · refine z_ok_i (fun c62118 => ?_) (fun c62118 => ?_)
            · have z62119 : y_in (z_gI q 11) (169) (169) := z_w (z_eq1 c62118 (show y_in (169 : Int32) (169) (169) from ⟨by decide, by decide⟩)) (by decide) (by decide)
              exact t_k_On_executeSingle_237 x1 q hx1 hq
            · refine z_ok_i (fun c62120 => ?_) (fun c62120 => ?_)
              · have z62121 : y_in (z_gI q 11) (192) (192) := z_w (z_eq1 c62120 (show y_in (192 : Int32) (192) (192) from ⟨by decide, by decide⟩)) (by decide) (by decide)
                exact t_k_On_executeSingle_266 x1 q hx1 hq
              · refine z_ok_i (fun c62122 => ?_) (fun c62122 => ?_)
                · have z62123 : y_in (z_gI q 11) (193) (193) := z_w (z_eq1 c62122 (show y_in (193 : Int32) (193) (193) from ⟨by decide, by decide⟩)) (by decide) (by decide)
                  exact t_k_On_executeSingle_266 x1 q hx1 hq
                · refine z_ok_i (fun c62124 => ?_) (fun c62124 => ?_)
                  · have z62125 : y_in (z_gI q 11) (208) (208) := z_w (z_eq1 c62124 (show y_in (208 : Int32) (208) (208) from ⟨by decide, by decide⟩)) (by decide) (by decide)
                    exact t_k_On_executeSingle_266 x1 q hx1 hq
                  · refine z_ok_i (fun c62126 => ?_) (fun c62126 => ?_)
                    · have z62127 : y_in (z_gI q 11) (209) (209) := z_w (z_eq1 c62126 (show y_in (209 : Int32) (209) (209) from ⟨by decide, by decide⟩)) (by decide) (by decide)
                      exact t_k_On_executeSingle_266 x1 q hx1 hq
                    · refine z_ok_i (fun c62128 => ?_) (fun c62128 => ?_)
                      · have z62129 : y_in (z_gI q 11) (210) (210) := z_w (z_eq1 c62128 (show y_in (210 : Int32) (210) (210) from ⟨by decide, by decide⟩)) (by decide) (by decide)
                        exact t_k_On_executeSingle_266 x1 q hx1 hq
                      · refine z_ok_i (fun c62130 => ?_) (fun c62130 => ?_)
                        · have z62131 : y_in (z_gI q 11) (211) (211) := z_w (z_eq1 c62130 (show y_in (211 : Int32) (211) (211) from ⟨by decide, by decide⟩)) (by decide) (by decide)
                          exact t_k_On_executeSingle_266 x1 q hx1 hq
                        · refine z_ok_i (fun c62132 => ?_) (fun c62132 => ?_)
                          · have z62133 : y_in (z_gI q 11) (245) (245) := z_w (z_eq1 c62132 (show y_in (245 : Int32) (245) (245) from ⟨by decide, by decide⟩)) (by decide) (by decide)
                            refine z_ok_n (fun q26 eq26 => ?_)
                            have hq26 : iK q26 := by rw [eq26]; exact (iK_sI0 hq)
                            exact t_k_On_executeSingle_432 q26 hq26
                          · refine z_ok_i (fun c62134 => ?_) (fun c62134 => ?_)
                            · have z62135 : y_in (z_gI q 11) (248) (248) := z_w (z_eq1 c62134 (show y_in (248 : Int32) (248) (248) from ⟨by decide, by decide⟩)) (by decide) (by decide)
                              refine z_ok_n (fun q28 eq28 => ?_)
                              have hq28 : iK q28 := by rw [eq28]; exact (iK_sI0 hq)
                              exact t_k_On_executeSingle_432 q28 hq28
                            · refine z_ok_i (fun c62136 => ?_) (fun c62136 => ?_)
                              · have z62137 : y_in (z_gI q 11) (249) (249) := z_w (z_eq1 c62136 (show y_in (249 : Int32) (249) (249) from ⟨by decide, by decide⟩)) (by decide) (by decide)
                                refine z_ok_n (fun q30 eq30 => ?_)
                                have hq30 : iK q30 := by rw [eq30]; exact (iK_sI0 hq)
                                exact t_k_On_executeSingle_432 q30 hq30
                              · refine z_ok_i (fun c62138 => ?_) (fun c62138 => ?_)
                                · have z62139 : y_in (z_gI q 11) (252) (252) := z_w (z_eq1 c62138 (show y_in (252 : Int32) (252) (252) from ⟨by decide, by decide⟩)) (by decide) (by decide)
                                  refine z_ok_n (fun q32 eq32 => ?_)
                                  have hq32 : iK q32 := by rw [eq32]; exact (iK_sI0 hq)
                                  exact t_k_On_executeSingle_432 q32 hq32
                                · refine z_ok_i (fun c62140 => ?_) (fun c62140 => ?_)
                                  · have z62141 : y_in (z_gI q 11) (253) (253) := z_w (z_eq1 c62140 (show y_in (253 : Int32) (253) (253) from ⟨by decide, by decide⟩)) (by decide) (by decide)
                                    refine z_ok_n (fun q34 eq34 => ?_)
                                    have hq34 : iK q34 := by rw [eq34]; exact (iK_sI0 hq)
                                    exact t_k_On_executeSingle_432 q34 hq34
                                  · refine z_ok_i (fun c62142 => ?_) (fun c62142 => ?_)
                                    · have z62143 : y_in (z_gI q 11) (254) (254) := z_w (z_eq1 c62142 (show y_in (254 : Int32) (254) (254) from ⟨by decide, by decide⟩)) (by decide) (by decide)
                                      exact t_k_On_executeSingle_302 x1 q hx1 hq
                                    · refine z_ok_i (fun c62144 => ?_) (fun c62144 => ?_)
                                      · have z62145 : y_in (z_gI q 11) (255) (255) := z_w (z_eq1 c62144 (show y_in (255 : Int32) (255) (255) from ⟨by decide, by decide⟩)) (by decide) (by decide)
                                        exact t_k_On_executeSingle_302 x1 q hx1 hq
                                      · refine z_ok_b (t_f_On_move x1 q hx1 hq) (fun r41 hr41 => ?_)
                                        exact t_k_On_executeSingle_432 r41 hr41

set_option maxHeartbeats 4000000 in
set_option maxRecDepth 100000 in
theorem t_k_Ar_combine_124 (x2 : Int64) (x4 : Int64) (x6 : Int32) (q : z_Sg) (hx6 : y_in x6 (1) (8)) (hq : iK q) : z_ok (k_Ar_combine_124 x2 x4 x6 q) (fun o : Int64 × z_Sg => iK o.2) := by
  unfold k_Ar_combine_124
  refine z_ok_b (t_f_Ar_difference x2 x4 (0 : Int64) x6 q (z_w hx6 (by decide) (by decide)) hq) (fun r13 hr13 => ?_)
  exact z_ok_s hr13

set_option maxHeartbeats 4000000 in
set_option maxRecDepth 100000 in
theorem t_f_Ar_combine (x1 : Int32) (x2 : Int64) (x4 : Int64) (x6 : Int32) (q : z_Sg) (hx1 : y_in x1 (0) (63)) (hx6 : y_in x6 (1) (8)) (hq : iK q) : z_ok (f_Ar_combine x1 x2 x4 x6 q) (fun o : Int64 × z_Sg => iK o.2) := by
  unfold f_Ar_combine
  refine z_ok_n (fun n1 en1 => ?_)
  refine z_ok_i (fun c62146 => ?_) (fun c62146 => ?_)
  · have z62147 : y_in x1 (0) (0) := z_w (z_eq1 c62146 (show y_in (0 : Int32) (0) (0) from ⟨by decide, by decide⟩)) (by decide) (by decide)
    refine z_ok_b (t_f_Ar_sum x2 x4 (0 : Int64) x6 q (z_w hx6 (by decide) (by decide)) hq) (fun r3 hr3 => ?_)
    exact z_ok_s hr3
  · have z62148 : y_in x1 (1) (63) := z_w (z_ne1 c62146 hx1 (by decide)) (by decide) (by decide)
    refine z_ok_i (fun c62149 => ?_) (fun c62149 => ?_)
    · have z62150 : y_in x1 (1) (1) := z_w (z_eq1 c62149 (show y_in (1 : Int32) (1) (1) from ⟨by decide, by decide⟩)) (by decide) (by decide)
      refine z_ok_b (t_f_Ar_logic (x2 ||| x4) x6 q (z_w hx6 (by decide) (by decide)) hq) (fun r5 hr5 => ?_)
      exact z_ok_s hr5
    · have z62151 : y_in x1 (2) (63) := z_w (z_ne1 c62149 z62148 (by decide)) (by decide) (by decide)
      refine z_ok_i (fun c62152 => ?_) (fun c62152 => ?_)
      · have z62153 : y_in x1 (2) (2) := z_w (z_eq1 c62152 (show y_in (2 : Int32) (2) (2) from ⟨by decide, by decide⟩)) (by decide) (by decide)
        refine z_ok_b (t_f_Ar_sum x2 x4 n1 x6 q (z_w hx6 (by decide) (by decide)) hq) (fun r7 hr7 => ?_)
        exact z_ok_s hr7
      · have z62154 : y_in x1 (3) (63) := z_w (z_ne1 c62152 z62151 (by decide)) (by decide) (by decide)
        refine z_ok_i (fun c62155 => ?_) (fun c62155 => ?_)
        · have z62156 : y_in x1 (3) (3) := z_w (z_eq1 c62155 (show y_in (3 : Int32) (3) (3) from ⟨by decide, by decide⟩)) (by decide) (by decide)
          refine z_ok_b (t_f_Ar_difference x2 x4 n1 x6 q (z_w hx6 (by decide) (by decide)) hq) (fun r9 hr9 => ?_)
          exact z_ok_s hr9
        · have z62157 : y_in x1 (4) (63) := z_w (z_ne1 c62155 z62154 (by decide)) (by decide) (by decide)
          refine z_ok_i (fun c62158 => ?_) (fun c62158 => ?_)
          · have z62159 : y_in x1 (4) (4) := z_w (z_eq1 c62158 (show y_in (4 : Int32) (4) (4) from ⟨by decide, by decide⟩)) (by decide) (by decide)
            refine z_ok_b (t_f_Ar_logic (x2 &&& x4) x6 q (z_w hx6 (by decide) (by decide)) hq) (fun r11 hr11 => ?_)
            exact z_ok_s hr11
          · have z62160 : y_in x1 (5) (63) := z_w (z_ne1 c62158 z62157 (by decide)) (by decide) (by decide)
            refine z_ok_i (fun c62161 => ?_) (fun c62161 => ?_)
            · have z62162 : y_in x1 (5) (5) := z_w (z_eq1 c62161 (show y_in (5 : Int32) (5) (5) from ⟨by decide, by decide⟩)) (by decide) (by decide)
              exact t_k_Ar_combine_124 x2 x4 x6 q hx6 hq
            · have z62163 : y_in x1 (6) (63) := z_w (z_ne1 c62161 z62160 (by decide)) (by decide) (by decide)
              refine z_ok_i (fun c62164 => ?_) (fun c62164 => ?_)
              · have z62165 : y_in x1 (6) (6) := z_w (z_eq1 c62164 (show y_in (6 : Int32) (6) (6) from ⟨by decide, by decide⟩)) (by decide) (by decide)
                refine z_ok_b (t_f_Ar_logic (x2 ^^^ x4) x6 q (z_w hx6 (by decide) (by decide)) hq) (fun r15 hr15 => ?_)
                exact z_ok_s hr15
              · have z62166 : y_in x1 (7) (63) := z_w (z_ne1 c62164 z62163 (by decide)) (by decide) (by decide)
                exact t_k_Ar_combine_124 x2 x4 x6 q hx6 hq

set_option maxHeartbeats 4000000 in
set_option maxRecDepth 100000 in
theorem t_k_On_combine_154 (q : z_Sg) (hq : iK q) : z_ok (k_On_combine_154 q) (fun o : z_Sg => iK o) := by
  unfold k_On_combine_154
  exact z_ok_s hq

set_option maxHeartbeats 4000000 in
set_option maxRecDepth 100000 in
theorem t_k_On_combine_84 (x1 : Int32) (x2 : Int32) (x3 : Int32) (x4 : Int64) (t0 : Int64) (q : z_Sg) (hx1 : y_in x1 (0) (63)) (hx2 : y_in x2 (0) (3)) (hx3 : y_in x3 (1) (8)) (hq : iK q) : z_ok (k_On_combine_84 x1 x2 x3 x4 t0 q) (fun o : z_Sg => iK o) := by
  unfold k_On_combine_84
  refine z_ok_b (t_f_Ar_combine x1 x4 t0 x3 q hx1 hx3 hq) (fun r7 hr7 => ?_)
  refine z_ok_i (fun c62167 => ?_) (fun c62167 => ?_)
  · have z62168 : y_in x1 (7) (7) := z_w (z_eq1 c62167 (show y_in (7 : Int32) (7) (7) from ⟨by decide, by decide⟩)) (by decide) (by decide)
    exact z_ok_s hr7
  · refine z_ok_i (fun c62169 => ?_) (fun c62169 => ?_)
    · have z62170 : y_in x2 (1) (1) := z_w (z_eq1 c62169 (show y_in (1 : Int32) (1) (1) from ⟨by decide, by decide⟩)) (by decide) (by decide)
      refine z_ok_b (t_f_Op_putG r7.1 x3 r7.2 (z_w hx3 (by decide) (by decide)) hr7) (fun r13 hr13 => ?_)
      exact t_k_On_combine_154 r13 hr13
    · refine z_ok_i (fun c62171 => ?_) (fun c62171 => ?_)
      · have z62172 : y_in x2 (2) (2) := z_w (z_eq1 c62171 (show y_in (2 : Int32) (2) (2) from ⟨by decide, by decide⟩)) (by decide) (by decide)
        refine z_ok_b (t_f_Op_putPart (0 : Int32) r7.1 x3 r7.2 (z_w (show y_in (0 : Int32) (0) (0) from ⟨by decide, by decide⟩) (by decide) (by decide)) (z_w hx3 (by decide) (by decide)) hr7) (fun r12 hr12 => ?_)
        exact t_k_On_combine_154 r12 hr12
      · refine z_ok_b (t_f_Op_put r7.1 r7.2 hr7) (fun r11 hr11 => ?_)
        exact t_k_On_combine_154 r11 hr11

set_option maxHeartbeats 4000000 in
set_option maxRecDepth 100000 in
theorem t_k_On_combine_45 (x1 : Int32) (x2 : Int32) (x3 : Int32) (t0 : Int64) (q : z_Sg) (hx1 : y_in x1 (0) (63)) (hx2 : y_in x2 (0) (3)) (hx3 : y_in x3 (1) (8)) (hq : iK q) : z_ok (k_On_combine_45 x1 x2 x3 t0 q) (fun o : z_Sg => iK o) := by
  unfold k_On_combine_45
  refine z_ok_i (fun c62173 => ?_) (fun c62173 => ?_)
  · have z62174 : y_in x2 (0) (0) := z_w (z_eq1 c62173 (show y_in (0 : Int32) (0) (0) from ⟨by decide, by decide⟩)) (by decide) (by decide)
    refine z_ok_b (t_f_Op_g x3 q (z_w hx3 (by decide) (by decide)) hq) (fun r15 hr15 => ?_)
    exact t_k_On_combine_84 x1 x2 x3 t0 r15 q hx1 (z_w z62174 (by decide) (by decide)) hx3 hq
  · have z62175 : y_in x2 (1) (3) := z_w (z_ne1 c62173 hx2 (by decide)) (by decide) (by decide)
    refine z_ok_i (fun c62176 => ?_) (fun c62176 => ?_)
    · have z62177 : y_in x2 (1) (1) := z_w (z_eq1 c62176 (show y_in (1 : Int32) (1) (1) from ⟨by decide, by decide⟩)) (by decide) (by decide)
      refine z_ok_b (t_f_Op_value q hq) (fun r14 hr14 => ?_)
      exact t_k_On_combine_84 x1 x2 x3 t0 r14 q hx1 (z_w z62177 (by decide) (by decide)) hx3 hq
    · have z62178 : y_in x2 (2) (3) := z_w (z_ne1 c62176 z62175 (by decide)) (by decide) (by decide)
      exact t_k_On_combine_84 x1 x2 x3 t0 (z_gL q 9) q hx1 (z_w z62178 (by decide) (by decide)) hx3 hq

set_option maxHeartbeats 4000000 in
set_option maxRecDepth 100000 in
theorem t_f_On_combine (x1 : Int32) (x2 : Int32) (q : z_Sg) (hx1 : y_in x1 (0) (63)) (hx2 : y_in x2 (0) (3)) (hq : iK q) : z_ok (f_On_combine x1 x2 q) (fun o : z_Sg => iK o) := by
  unfold f_On_combine
  refine z_ok_b (t_f_On_sizeByOpcode q hq) (fun r1 hr1 => ?_)
  refine z_ok_i (fun c62179 => ?_) (fun c62179 => ?_)
  · have z62180 : y_in x2 (1) (1) := z_w (z_eq1 c62179 (show y_in (1 : Int32) (1) (1) from ⟨by decide, by decide⟩)) (by decide) (by decide)
    refine z_ok_b (t_f_Op_g r1 q (z_w hr1 (by decide) (by decide)) hq) (fun r17 hr17 => ?_)
    exact t_k_On_combine_45 x1 x2 r1 r17 q hx1 (z_w z62180 (by decide) (by decide)) hr1 hq
  · refine z_ok_i (fun c62181 => ?_) (fun c62181 => ?_)
    · have z62182 : y_in x2 (2) (2) := z_w (z_eq1 c62181 (show y_in (2 : Int32) (2) (2) from ⟨by decide, by decide⟩)) (by decide) (by decide)
      refine z_ok_b (t_f_Op_part (0 : Int32) r1 q (z_w (show y_in (0 : Int32) (0) (0) from ⟨by decide, by decide⟩) (by decide) (by decide)) (z_w hr1 (by decide) (by decide)) hq) (fun r16 hr16 => ?_)
      exact t_k_On_combine_45 x1 x2 r1 r16 q hx1 (z_w z62182 (by decide) (by decide)) hr1 hq
    · refine z_ok_b (t_f_Op_value q hq) (fun r4 hr4 => ?_)
      exact t_k_On_combine_45 x1 x2 r1 r4 q hx1 hx2 hr1 hq

set_option maxHeartbeats 4000000 in
set_option maxRecDepth 100000 in
theorem t_k_On_execute_130 (q : z_Sg) (hq : iK q) : z_ok (k_On_execute_130 q) (fun o : Int32 × z_Sg => iK o.2 ∧ y_in o.1 (-1) (0)) := by
  unfold k_On_execute_130
  refine z_ok_b (t_f_On_executeByReg q hq) (fun r11 hr11 => ?_)
  exact z_ok_s ⟨hr11.1, hr11.2⟩

set_option maxHeartbeats 4000000 in
set_option maxRecDepth 100000 in
theorem t_k_On_execute_223 (q : z_Sg) (hq : iK q) : z_ok (k_On_execute_223 q) (fun o : Int32 × z_Sg => iK o.2 ∧ y_in o.1 (-1) (0)) := by
  unfold k_On_execute_223
  exact z_ok_s ⟨hq, (z_w (show y_in (-1 : Int32) (-1) (-1) from ⟨by decide, by decide⟩) (by decide) (by decide))⟩

set_option maxHeartbeats 4000000 in
set_option maxRecDepth 100000 in
theorem t_k_On_execute_215 (q : z_Sg) (hq : iK q) : z_ok (k_On_execute_215 q) (fun o : Int32 × z_Sg => iK o.2 ∧ y_in o.1 (-1) (0)) := by
  unfold k_On_execute_215
  refine z_ok_b (t_f_On_sizeByOpcode q hq) (fun r15 hr15 => ?_)
  refine z_ok_b (t_f_On_executeSingle r15 q hr15 hq) (fun r16 hr16 => ?_)
  exact t_k_On_execute_223 r16 hr16

set_option maxHeartbeats 4000000 in
set_option maxRecDepth 100000 in
theorem t_f_On_execute (q : z_Sg) (hq : iK q) : z_ok (f_On_execute q) (fun o : Int32 × z_Sg => iK o.2 ∧ y_in o.1 (-1) (0)) := by
  unfold f_On_execute
  refine z_ok_i (fun c62183 => ?_) (fun c62183 => ?_)
  · have z62184 : y_in ((z_gI q 11) &&& (-8 : Int32)) (144) (144) := z_w (z_eq1 c62183 (show y_in (144 : Int32) (144) (144) from ⟨by decide, by decide⟩)) (by decide) (by decide)
    refine z_ok_b (t_f_On_changePlacesWithA q hq) (fun r2 hr2 => ?_)
    exact z_ok_s ⟨hr2, (z_w (show y_in (-1 : Int32) (-1) (-1) from ⟨by decide, by decide⟩) (by decide) (by decide))⟩
  · refine z_ok_i (fun c62185 => ?_) (fun c62185 => ?_)
    · have z62186 : y_in ((z_gI q 11) &&& (-8 : Int32)) (176) (176) := z_w (z_eq1 c62185 (show y_in (176 : Int32) (176) (176) from ⟨by decide, by decide⟩)) (by decide) (by decide)
      refine z_ok_b (t_f_De_registerO q hq) (fun r4 hr4 => ?_)
      refine z_ok_b (t_f_Op_putPart r4 (z_gL q 9) (1 : Int32) q hr4 (z_w (show y_in (1 : Int32) (1) (1) from ⟨by decide, by decide⟩) (by decide) (by decide)) hq) (fun r5 hr5 => ?_)
      exact z_ok_s ⟨hr5, (z_w (show y_in (-1 : Int32) (-1) (-1) from ⟨by decide, by decide⟩) (by decide) (by decide))⟩
    · refine z_ok_i (fun c62187 => ?_) (fun c62187 => ?_)
      · have z62188 : y_in ((z_gI q 11) &&& (-8 : Int32)) (184) (184) := z_w (z_eq1 c62187 (show y_in (184 : Int32) (184) (184) from ⟨by decide, by decide⟩)) (by decide) (by decide)
        refine z_ok_b (t_f_De_registerO q hq) (fun r7 hr7 => ?_)
        refine z_ok_b (t_f_De_sizeV q hq) (fun r8 hr8 => ?_)
        refine z_ok_b (t_f_Op_putPart r7 (z_gL q 9) r8 q hr7 (z_w hr8 (by decide) (by decide)) hq) (fun r9 hr9 => ?_)
        exact z_ok_s ⟨hr9, (z_w (show y_in (-1 : Int32) (-1) (-1) from ⟨by decide, by decide⟩) (by decide) (by decide))⟩
      · refine z_ok_i (fun c62189 => ?_) (fun c62189 => ?_)
        · have z62190 : y_in (z_gI q 11) (246) (246) := z_w (z_eq1 c62189 (show y_in (246 : Int32) (246) (246) from ⟨by decide, by decide⟩)) (by decide) (by decide)
          exact t_k_On_execute_130 q hq
        · refine z_ok_i (fun c62191 => ?_) (fun c62191 => ?_)
          · have z62192 : y_in (z_gI q 11) (247) (247) := z_w (z_eq1 c62191 (show y_in (247 : Int32) (247) (247) from ⟨by decide, by decide⟩)) (by decide) (by decide)
            exact t_k_On_execute_130 q hq
          · refine z_ok_i (fun c62193 => ?_) (fun c62193 => ?_)
            · have z62194 : y_in (z_gI q 11) (64) (511) := z_w (z_le2 c62193 (show y_in (64 : Int32) (64) (64) from ⟨by decide, by decide⟩) (iK_f11 hq)) (by decide) (by decide)
              refine z_ok_i (fun c62195 => ?_) (fun c62195 => ?_)
              · have z62196 : y_in (z_gI q 11) (64) (127) := z_w (z_lt1 c62195 z62194 (show y_in (128 : Int32) (128) (128) from ⟨by decide, by decide⟩)) (by decide) (by decide)
                exact t_k_On_execute_215 q hq
              · have z62197 : y_in (z_gI q 11) (128) (511) := z_w (z_nlt1 c62195 z62194 (show y_in (128 : Int32) (128) (128) from ⟨by decide, by decide⟩)) (by decide) (by decide)
                refine z_ok_i (fun c62198 => ?_) (fun c62198 => ?_)
                · have z62199 : y_in (z_gI q 11) (132) (511) := z_w (z_lt2 c62198 (show y_in (131 : Int32) (131) (131) from ⟨by decide, by decide⟩) z62197) (by decide) (by decide)
                  exact t_k_On_execute_215 q hq
                · have z62200 : y_in (z_gI q 11) (128) (131) := z_w (z_nlt2 c62198 (show y_in (131 : Int32) (131) (131) from ⟨by decide, by decide⟩) z62197) (by decide) (by decide)
                  refine z_ok_b (t_f_On_combine (z_gI q 13) (3 : Int32) q (z_w (iK_f13 hq) (by decide) (by decide)) (z_w (show y_in (3 : Int32) (3) (3) from ⟨by decide, by decide⟩) (by decide) (by decide)) hq) (fun r18 hr18 => ?_)
                  exact t_k_On_execute_223 r18 hr18
            · have z62201 : y_in (z_gI q 11) (0) (63) := z_w (z_nle2 c62193 (show y_in (64 : Int32) (64) (64) from ⟨by decide, by decide⟩) (iK_f11 hq)) (by decide) (by decide)
              refine z_ok_b (t_f_On_combine ((z_gI q 11) >>> ((3 : Int32) &&& 31)) (((z_gI q 11) >>> ((1 : Int32) &&& 31)) &&& (3 : Int32)) q (z_shr 3 _ (by decide) z62201 (by decide)) (z_and (show y_in (3 : Int32) (3) (3) from ⟨by decide, by decide⟩) (by decide)) hq) (fun r19 hr19 => ?_)
              exact t_k_On_execute_223 r19 hr19

set_option maxHeartbeats 4000000 in
set_option maxRecDepth 100000 in
theorem t_kb_Sp_value_17_4 (ih4 : Int64 × Int32 → Option Int64) (x1 : Int64) (x3 : Int32) (q : z_Sg) (hi4 : ∀ (x1' : Int64) (x3' : Int32), y_in x3' (0) (8) → (8 - x3'.toInt).toNat < (8 - x3.toInt).toNat → z_ok (ih4 (x1', x3')) (fun _ : Int64 => True)) (hx3 : y_in x3 (0) (8)) (hq : iK q) : z_ok (kb_Sp_value_17_4 ih4 x1 x3 q) (fun _ : Int64 => True) := by
  unfold kb_Sp_value_17_4
  refine z_ok_i (fun c62202 => ?_) (fun c62202 => ?_)
  · exact z_ok_s trivial
  · have z62203 : y_in (z_gI q 19) (1) (8) := z_w (z_nle1 c62202 (iK_f19 hq) hx3) (by decide) (by decide)
    have z62204 : y_in x3 (0) (7) := z_w (z_nle2 c62202 (iK_f19 hq) hx3) (by decide) (by decide)
    refine z_ok_g (z_nbad z62204 (by decide)) ?_
    refine z_ok_b (t_f_Pa_byteAt (z_gM q 5 x3.toNatClampNeg) q hq) (fun r3 hr3 => ?_)
    refine z_ok_n (fun n4 en4 => ?_)
    refine z_ok_n (fun n5 en5 => ?_)
    have hn5 : y_in n5 (1) (8) := z_e en5 (z_w (a' := 1) (b' := 8) (z_add z62204 (show y_in (1 : Int32) (1) (1) from ⟨by decide, by decide⟩) (by decide) (by decide)) (by decide) (by decide))
    exact hi4 n4 n5 (z_w hn5 (by decide) (by decide)) (z_mu (8) 1 z62204 en5 (by decide) (by decide) (by decide) (by decide))

set_option maxHeartbeats 4000000 in
set_option maxRecDepth 100000 in
theorem t_k_Sp_value_17_4 (x1 : Int64) (x3 : Int32) (q : z_Sg) (hx1 : y_il x1 (0) (0)) (hx3 : y_in x3 (0) (0)) (hq : iK q) : z_ok (k_Sp_value_17_4 x1 x3 q) (fun _ : Int64 => True) := by
  unfold k_Sp_value_17_4
  refine z_ok_l (fun a : Int64 × Int32 => y_in a.2 (0) (8)) (fun a => (8 - a.2.toInt).toNat) ?_ (x1, x3) (z_w hx3 (by decide) (by decide)) (by show ((8 - x3.toInt).toNat) < 2000; have z1 := hx3.1; have z2 := hx3.2; omega)
  intro ih a ha hih
  exact t_kb_Sp_value_17_4 ih a.1 a.2 q (fun x1' x3' hx3' hm => hih (x1', x3') hx3' hm) ha hq

set_option maxHeartbeats 4000000 in
set_option maxRecDepth 100000 in
theorem t_f_Sp_value_17 (q : z_Sg) (hq : iK q) : z_ok (f_Sp_value_17 q) (fun _ : Int64 => True) := by
  unfold f_Sp_value_17
  exact t_k_Sp_value_17_4 (0 : Int64) (0 : Int32) q (show y_il (0 : Int64) (0) (0) from ⟨by decide, by decide⟩) (show y_in (0 : Int32) (0) (0) from ⟨by decide, by decide⟩) hq

set_option maxHeartbeats 4000000 in
set_option maxRecDepth 100000 in
theorem t_kb_Sp_put_17_2 (ih2 : Int64 × Int32 × z_Sg → Option z_Sg) (x1 : Int64) (x3 : Int32) (q : z_Sg) (hi2 : ∀ (x1' : Int64) (x3' : Int32) (q' : z_Sg), y_in x3' (0) (8) → iK q' → (8 - x3'.toInt).toNat < (8 - x3.toInt).toNat → z_ok (ih2 (x1', x3', q')) (fun o : z_Sg => iK o)) (hx3 : y_in x3 (0) (8)) (hq : iK q) : z_ok (kb_Sp_put_17_2 ih2 x1 x3 q) (fun o : z_Sg => iK o) := by
  unfold kb_Sp_put_17_2
  refine z_ok_i (fun c62205 => ?_) (fun c62205 => ?_)
  · exact z_ok_s hq
  · have z62206 : y_in (z_gI q 19) (1) (8) := z_w (z_nle1 c62205 (iK_f19 hq) hx3) (by decide) (by decide)
    have z62207 : y_in x3 (0) (7) := z_w (z_nle2 c62205 (iK_f19 hq) hx3) (by decide) (by decide)
    refine z_ok_g (z_nbad z62207 (by decide)) ?_
    refine z_ok_b (t_f_Pa_putByte (z_gM q 5 x3.toNatClampNeg) (z_lushr x1 ((8 : Int32) * x3)) q hq) (fun r3 hr3 => ?_)
    refine z_ok_n (fun n4 en4 => ?_)
    have hn4 : y_in n4 (1) (8) := z_e en4 (z_w (a' := 1) (b' := 8) (z_add z62207 (show y_in (1 : Int32) (1) (1) from ⟨by decide, by decide⟩) (by decide) (by decide)) (by decide) (by decide))
    exact hi2 x1 n4 r3 (z_w hn4 (by decide) (by decide)) hr3 (z_mu (8) 1 z62207 en4 (by decide) (by decide) (by decide) (by decide))

set_option maxHeartbeats 4000000 in
set_option maxRecDepth 100000 in
theorem t_k_Sp_put_17_2 (x1 : Int64) (x3 : Int32) (q : z_Sg) (hx3 : y_in x3 (0) (0)) (hq : iK q) : z_ok (k_Sp_put_17_2 x1 x3 q) (fun o : z_Sg => iK o) := by
  unfold k_Sp_put_17_2
  refine z_ok_l (fun a : Int64 × Int32 × z_Sg => y_in a.2.1 (0) (8) ∧ iK a.2.2) (fun a => (8 - a.2.1.toInt).toNat) ?_ (x1, x3, q) ⟨(z_w hx3 (by decide) (by decide)), hq⟩ (by show ((8 - x3.toInt).toNat) < 2000; have z1 := hx3.1; have z2 := hx3.2; omega)
  intro ih a ha hih
  exact t_kb_Sp_put_17_2 ih a.1 a.2.1 a.2.2 (fun x1' x3' q' hx3' hq' hm => hih (x1', x3', q') ⟨hx3', hq'⟩ hm) ha.1 ha.2

set_option maxHeartbeats 4000000 in
set_option maxRecDepth 100000 in
theorem t_f_Sp_put_17 (x1 : Int64) (q : z_Sg) (hq : iK q) : z_ok (f_Sp_put_17 x1 q) (fun o : z_Sg => iK o) := by
  unfold f_Sp_put_17
  exact t_k_Sp_put_17_2 x1 (0 : Int32) q (show y_in (0 : Int32) (0) (0) from ⟨by decide, by decide⟩) hq

set_option maxHeartbeats 4000000 in
set_option maxRecDepth 100000 in
theorem t_k_Sr_use_80 (q : z_Sg) (hq : iK q) : z_ok (k_Sr_use_80 q) (fun o : z_Sg => iK o) := by
  unfold k_Sr_use_80
  exact z_ok_s hq

set_option maxHeartbeats 4000000 in
set_option maxRecDepth 100000 in
theorem t_k_Sr_use_36 (x2 : Int64) (x4 : Int32) (q : z_Sg) (hx4 : y_in x4 (1) (8)) (hq : iK q) : z_ok (k_Sr_use_36 x2 x4 q) (fun o : z_Sg => iK o) := by
  unfold k_Sr_use_36
  refine z_ok_b (t_f_Sp_value_17 q hq) (fun r2 hr2 => ?_)
  refine z_ok_b (t_f_Ar_difference x2 r2 (0 : Int64) x4 q (z_w hx4 (by decide) (by decide)) hq) (fun r3 hr3 => ?_)
  exact t_k_Sr_use_80 r3.2 hr3

set_option maxHeartbeats 4000000 in
set_option maxRecDepth 100000 in
theorem t_f_Sr_use (x1 : Int32) (x2 : Int64) (x4 : Int32) (q : z_Sg) (hx1 : y_in x1 (164) (174)) (hx4 : y_in x4 (1) (8)) (hq : iK q) : z_ok (f_Sr_use x1 x2 x4 q) (fun o : z_Sg => iK o) := by
  unfold f_Sr_use
  refine z_ok_i (fun c62208 => ?_) (fun c62208 => ?_)
  · have z62209 : y_in x1 (166) (166) := z_w (z_eq1 c62208 (show y_in (166 : Int32) (166) (166) from ⟨by decide, by decide⟩)) (by decide) (by decide)
    exact t_k_Sr_use_36 x2 x4 q hx4 hq
  · refine z_ok_i (fun c62210 => ?_) (fun c62210 => ?_)
    · have z62211 : y_in x1 (172) (172) := z_w (z_eq1 c62210 (show y_in (172 : Int32) (172) (172) from ⟨by decide, by decide⟩)) (by decide) (by decide)
      refine z_ok_b (t_f_Op_putPart (0 : Int32) x2 x4 q (z_w (show y_in (0 : Int32) (0) (0) from ⟨by decide, by decide⟩) (by decide) (by decide)) (z_w hx4 (by decide) (by decide)) hq) (fun r5 hr5 => ?_)
      exact t_k_Sr_use_80 r5 hr5
    · refine z_ok_i (fun c62212 => ?_) (fun c62212 => ?_)
      · have z62213 : y_in x1 (174) (174) := z_w (z_eq1 c62212 (show y_in (174 : Int32) (174) (174) from ⟨by decide, by decide⟩)) (by decide) (by decide)
        exact t_k_Sr_use_36 x2 x4 q hx4 hq
      · have z62214 : y_in x1 (164) (173) := z_w (z_ne2 c62212 hx1 (by decide)) (by decide) (by decide)
        refine z_ok_b (t_f_Sp_put_17 x2 q hq) (fun r7 hr7 => ?_)
        exact t_k_Sr_use_80 r7 hr7

set_option maxHeartbeats 4000000 in
set_option maxRecDepth 100000 in
theorem t_kb_Sp_value_15_4 (ih4 : Int64 × Int32 → Option Int64) (x1 : Int64) (x3 : Int32) (q : z_Sg) (hi4 : ∀ (x1' : Int64) (x3' : Int32), y_in x3' (0) (8) → (8 - x3'.toInt).toNat < (8 - x3.toInt).toNat → z_ok (ih4 (x1', x3')) (fun _ : Int64 => True)) (hx3 : y_in x3 (0) (8)) (hq : iK q) : z_ok (kb_Sp_value_15_4 ih4 x1 x3 q) (fun _ : Int64 => True) := by
  unfold kb_Sp_value_15_4
  refine z_ok_i (fun c62215 => ?_) (fun c62215 => ?_)
  · exact z_ok_s trivial
  · have z62216 : y_in (z_gI q 18) (1) (8) := z_w (z_nle1 c62215 (iK_f18 hq) hx3) (by decide) (by decide)
    have z62217 : y_in x3 (0) (7) := z_w (z_nle2 c62215 (iK_f18 hq) hx3) (by decide) (by decide)
    refine z_ok_g (z_nbad z62217 (by decide)) ?_
    refine z_ok_b (t_f_Pa_byteAt (z_gM q 4 x3.toNatClampNeg) q hq) (fun r3 hr3 => ?_)
    refine z_ok_n (fun n4 en4 => ?_)
    refine z_ok_n (fun n5 en5 => ?_)
    have hn5 : y_in n5 (1) (8) := z_e en5 (z_w (a' := 1) (b' := 8) (z_add z62217 (show y_in (1 : Int32) (1) (1) from ⟨by decide, by decide⟩) (by decide) (by decide)) (by decide) (by decide))
    exact hi4 n4 n5 (z_w hn5 (by decide) (by decide)) (z_mu (8) 1 z62217 en5 (by decide) (by decide) (by decide) (by decide))

set_option maxHeartbeats 4000000 in
set_option maxRecDepth 100000 in
theorem t_k_Sp_value_15_4 (x1 : Int64) (x3 : Int32) (q : z_Sg) (hx1 : y_il x1 (0) (0)) (hx3 : y_in x3 (0) (0)) (hq : iK q) : z_ok (k_Sp_value_15_4 x1 x3 q) (fun _ : Int64 => True) := by
  unfold k_Sp_value_15_4
  refine z_ok_l (fun a : Int64 × Int32 => y_in a.2 (0) (8)) (fun a => (8 - a.2.toInt).toNat) ?_ (x1, x3) (z_w hx3 (by decide) (by decide)) (by show ((8 - x3.toInt).toNat) < 2000; have z1 := hx3.1; have z2 := hx3.2; omega)
  intro ih a ha hih
  exact t_kb_Sp_value_15_4 ih a.1 a.2 q (fun x1' x3' hx3' hm => hih (x1', x3') hx3' hm) ha hq

set_option maxHeartbeats 4000000 in
set_option maxRecDepth 100000 in
theorem t_f_Sp_value_15 (q : z_Sg) (hq : iK q) : z_ok (f_Sp_value_15 q) (fun _ : Int64 => True) := by
  unfold f_Sp_value_15
  exact t_k_Sp_value_15_4 (0 : Int64) (0 : Int32) q (show y_il (0 : Int64) (0) (0) from ⟨by decide, by decide⟩) (show y_in (0 : Int32) (0) (0) from ⟨by decide, by decide⟩) hq

set_option maxHeartbeats 4000000 in
set_option maxRecDepth 100000 in
theorem t_k_Sp_find_17_128 (ih16 : Int64 × Int32 × Int32 × Int32 × z_Sg → Option (Int32 × z_Sg)) (x1 : Int64) (x4 : Int32) (x5 : Int32) (x6 : Int32) (q : z_Sg) (hi16 : ∀ (x1' : Int64) (x4' : Int32) (x5' : Int32) (x6' : Int32) (q' : z_Sg), y_in x4' (0) (1) → y_in x5' (0) (0) → y_in x6' (0) (8) → iK q' → (8 - x6'.toInt).toNat < (8 - x6.toInt).toNat → z_ok (ih16 (x1', x4', x5', x6', q')) (fun o : Int32 × z_Sg => iK o.2 ∧ y_in o.1 (-1) (14))) (hx4 : y_in x4 (0) (1)) (hx5 : y_in x5 (0) (0)) (hx6 : y_in x6 (0) (7)) (hq : iK q) : z_ok (k_Sp_find_17_128 ih16 x1 x4 x5 x6 q) (fun o : Int32 × z_Sg => iK o.2 ∧ y_in o.1 (-1) (14)) := by
  unfold k_Sp_find_17_128
  refine z_ok_n (fun n11 en11 => ?_)
  have hn11 : y_in n11 (1) (8) := z_e en11 (z_w (a' := 1) (b' := 8) (z_add hx6 (show y_in (1 : Int32) (1) (1) from ⟨by decide, by decide⟩) (by decide) (by decide)) (by decide) (by decide))
  exact hi16 x1 x4 x5 n11 q hx4 hx5 (z_w hn11 (by decide) (by decide)) hq (z_mu (8) 1 hx6 en11 (by decide) (by decide) (by decide) (by decide))

set_option maxHeartbeats 4000000 in
set_option maxRecDepth 100000 in
theorem t_k_Sp_find_17_124 (t1 : Int64) (t2 : Int64) (t3 : Int32) (q : z_Sg) (ht3 : y_in t3 (13) (13)) (hq : iK q) : z_ok (k_Sp_find_17_124 t1 t2 t3 q) (fun o : Int32 × z_Sg => iK o.2 ∧ y_in o.1 (-1) (14)) := by
  unfold k_Sp_find_17_124
  refine z_ok_b (t_f_Pa_refusal t1 t2 t3 q (z_w ht3 (by decide) (by decide)) hq) (fun r14 hr14 => ?_)
  exact z_ok_s ⟨hr14.1, (z_w hr14.2 (by decide) (by decide))⟩

set_option maxHeartbeats 4000000 in
set_option maxRecDepth 100000 in
theorem t_k_Sp_find_17_69 (ih16 : Int64 × Int32 × Int32 × Int32 × z_Sg → Option (Int32 × z_Sg)) (x1 : Int64) (x4 : Int32) (x5 : Int32) (x6 : Int32) (x7 : Int64) (q : z_Sg) (hi16 : ∀ (x1' : Int64) (x4' : Int32) (x5' : Int32) (x6' : Int32) (q' : z_Sg), y_in x4' (0) (1) → y_in x5' (0) (0) → y_in x6' (0) (8) → iK q' → (8 - x6'.toInt).toNat < (8 - x6.toInt).toNat → z_ok (ih16 (x1', x4', x5', x6', q')) (fun o : Int32 × z_Sg => iK o.2 ∧ y_in o.1 (-1) (14))) (hx4 : y_in x4 (0) (1)) (hx5 : y_in x5 (0) (0)) (hx6 : y_in x6 (0) (7)) (hq : iK q) : z_ok (k_Sp_find_17_69 ih16 x1 x4 x5 x6 x7 q) (fun o : Int32 × z_Sg => iK o.2 ∧ y_in o.1 (-1) (14)) := by
  unfold k_Sp_find_17_69
  refine z_ok_b (t_f_Pa_locate x7 x4 q hq) (fun r6 hr6 => ?_)
  refine z_ok_g (z_nbad hx6 (by decide)) ?_
  refine z_ok_n (fun q8 eq8 => ?_)
  have hq8 : iK q8 := by rw [eq8]; exact (iK_sM hq)
  refine z_ok_g (z_nbad hx6 (by decide)) ?_
  refine z_ok_i (fun c62218 => ?_) (fun c62218 => ?_)
  · exact t_k_Sp_find_17_128 ih16 x1 x4 x5 x6 q8 hi16 hx4 hx5 hx6 hq8
  · refine z_ok_g (z_nbad hx6 (by decide)) ?_
    refine z_ok_i (fun c62219 => ?_) (fun c62219 => ?_)
    · exact t_k_Sp_find_17_124 x7 (z_gM q8 5 x6.toNatClampNeg) (13 : Int32) q8 (show y_in (13 : Int32) (13) (13) from ⟨by decide, by decide⟩) hq8
    · exact absurd (z_deadQn hx5 (show y_in (0 : Int32) (0) (0) from ⟨by decide, by decide⟩) (by decide)) c62219

set_option maxHeartbeats 4000000 in
set_option maxRecDepth 100000 in
theorem t_kb_Sp_find_17_16 (ih16 : Int64 × Int32 × Int32 × Int32 × z_Sg → Option (Int32 × z_Sg)) (x1 : Int64) (x4 : Int32) (x5 : Int32) (x6 : Int32) (q : z_Sg) (hi16 : ∀ (x1' : Int64) (x4' : Int32) (x5' : Int32) (x6' : Int32) (q' : z_Sg), y_in x4' (0) (1) → y_in x5' (0) (0) → y_in x6' (0) (8) → iK q' → (8 - x6'.toInt).toNat < (8 - x6.toInt).toNat → z_ok (ih16 (x1', x4', x5', x6', q')) (fun o : Int32 × z_Sg => iK o.2 ∧ y_in o.1 (-1) (14))) (hx4 : y_in x4 (0) (1)) (hx5 : y_in x5 (0) (0)) (hx6 : y_in x6 (0) (8)) (hq : iK q) : z_ok (kb_Sp_find_17_16 ih16 x1 x4 x5 x6 q) (fun o : Int32 × z_Sg => iK o.2 ∧ y_in o.1 (-1) (14)) := by
  unfold kb_Sp_find_17_16
  refine z_ok_i (fun c62220 => ?_) (fun c62220 => ?_)
  · exact z_ok_s ⟨hq, (z_w (show y_in (-1 : Int32) (-1) (-1) from ⟨by decide, by decide⟩) (by decide) (by decide))⟩
  · have z62221 : y_in (z_gI q 19) (1) (8) := z_w (z_nle1 c62220 (iK_f19 hq) hx6) (by decide) (by decide)
    have z62222 : y_in x6 (0) (7) := z_w (z_nle2 c62220 (iK_f19 hq) hx6) (by decide) (by decide)
    refine z_ok_n (fun n4 en4 => ?_)
    refine z_ok_i (fun c62223 => ?_) (fun c62223 => ?_)
    · have z62224 : y_in x6 (0) (0) := z_w (z_le1 c62223 z62222 (show y_in (0 : Int32) (0) (0) from ⟨by decide, by decide⟩)) (by decide) (by decide)
      exact t_k_Sp_find_17_69 ih16 x1 x4 x5 x6 n4 q hi16 hx4 hx5 (z_w z62224 (by decide) (by decide)) hq
    · have z62225 : y_in x6 (1) (7) := z_w (z_nle1 c62223 z62222 (show y_in (0 : Int32) (0) (0) from ⟨by decide, by decide⟩)) (by decide) (by decide)
      refine z_ok_i (fun c62226 => ?_) (fun c62226 => ?_)
      · exact t_k_Sp_find_17_69 ih16 x1 x4 x5 x6 n4 q hi16 hx4 hx5 (z_w z62225 (by decide) (by decide)) hq
      · refine z_ok_g (z_nbad (z_w (a' := 0) (b' := 6) (z_sub z62225 (show y_in (1 : Int32) (1) (1) from ⟨by decide, by decide⟩) (by decide) (by decide)) (by decide) (by decide)) (by decide)) ?_
        refine z_ok_g (z_nbad (z_w z62225 (by decide) (Int.le_refl _)) (by decide)) ?_
        refine z_ok_n (fun q18 eq18 => ?_)
        have hq18 : iK q18 := by rw [eq18]; exact (iK_sM hq)
        exact t_k_Sp_find_17_128 ih16 x1 x4 x5 x6 q18 hi16 hx4 hx5 (z_w z62225 (by decide) (by decide)) hq18

set_option maxHeartbeats 4000000 in
set_option maxRecDepth 100000 in
theorem t_k_Sp_find_17_16 (x1 : Int64) (x4 : Int32) (x5 : Int32) (x6 : Int32) (q : z_Sg) (hx4 : y_in x4 (0) (1)) (hx5 : y_in x5 (0) (0)) (hx6 : y_in x6 (0) (0)) (hq : iK q) : z_ok (k_Sp_find_17_16 x1 x4 x5 x6 q) (fun o : Int32 × z_Sg => iK o.2 ∧ y_in o.1 (-1) (14)) := by
  unfold k_Sp_find_17_16
  refine z_ok_l (fun a : Int64 × Int32 × Int32 × Int32 × z_Sg => y_in a.2.1 (0) (1) ∧ y_in a.2.2.1 (0) (0) ∧ y_in a.2.2.2.1 (0) (8) ∧ iK a.2.2.2.2) (fun a => (8 - a.2.2.2.1.toInt).toNat) ?_ (x1, x4, x5, x6, q) ⟨hx4, hx5, (z_w hx6 (by decide) (by decide)), hq⟩ (by show ((8 - x6.toInt).toNat) < 2000; have z1 := hx6.1; have z2 := hx6.2; omega)
  intro ih a ha hih
  exact t_kb_Sp_find_17_16 ih a.1 a.2.1 a.2.2.1 a.2.2.2.1 a.2.2.2.2 (fun x1' x4' x5' x6' q' hx4' hx5' hx6' hq' hm => hih (x1', x4', x5', x6', q') ⟨hx4', hx5', hx6', hq'⟩ hm) ha.1 ha.2.1 ha.2.2.1 ha.2.2.2

set_option maxHeartbeats 4000000 in
set_option maxRecDepth 100000 in
theorem t_f_Sp_find_17 (x1 : Int64) (x3 : Int32) (x4 : Int32) (x5 : Int32) (q : z_Sg) (hx3 : y_in x3 (1) (8)) (hx4 : y_in x4 (0) (1)) (hx5 : y_in x5 (0) (0)) (hq : iK q) : z_ok (f_Sp_find_17 x1 x3 x4 x5 q) (fun o : Int32 × z_Sg => iK o.2 ∧ y_in o.1 (-1) (14)) := by
  unfold f_Sp_find_17
  refine z_ok_b (t_f_Ma_min (e := 1) (f := 8) x3 (8 : Int32) q hx3 (show y_in (8 : Int32) (8) (8) from ⟨by decide, by decide⟩) (by decide) (by decide)) (fun r1 hr1 => ?_)
  refine z_ok_n (fun q2 eq2 => ?_)
  have hq2 : iK q2 := by rw [eq2]; exact (iK_sI19 hq (z_w hr1 (by decide) (by decide)))
  exact t_k_Sp_find_17_16 x1 x4 x5 (0 : Int32) q2 hx4 hx5 (show y_in (0 : Int32) (0) (0) from ⟨by decide, by decide⟩) hq2

set_option maxHeartbeats 4000000 in
set_option maxRecDepth 100000 in
theorem t_k_Sp_find_15_128 (ih16 : Int64 × Int32 × Int32 × Int32 × z_Sg → Option (Int32 × z_Sg)) (x1 : Int64) (x4 : Int32) (x5 : Int32) (x6 : Int32) (q : z_Sg) (hi16 : ∀ (x1' : Int64) (x4' : Int32) (x5' : Int32) (x6' : Int32) (q' : z_Sg), y_in x4' (0) (0) → y_in x5' (0) (0) → y_in x6' (0) (8) → iK q' → (8 - x6'.toInt).toNat < (8 - x6.toInt).toNat → z_ok (ih16 (x1', x4', x5', x6', q')) (fun o : Int32 × z_Sg => iK o.2 ∧ y_in o.1 (-1) (14))) (hx4 : y_in x4 (0) (0)) (hx5 : y_in x5 (0) (0)) (hx6 : y_in x6 (0) (7)) (hq : iK q) : z_ok (k_Sp_find_15_128 ih16 x1 x4 x5 x6 q) (fun o : Int32 × z_Sg => iK o.2 ∧ y_in o.1 (-1) (14)) := by
  unfold k_Sp_find_15_128
  refine z_ok_n (fun n11 en11 => ?_)
  have hn11 : y_in n11 (1) (8) := z_e en11 (z_w (a' := 1) (b' := 8) (z_add hx6 (show y_in (1 : Int32) (1) (1) from ⟨by decide, by decide⟩) (by decide) (by decide)) (by decide) (by decide))
  exact hi16 x1 x4 x5 n11 q hx4 hx5 (z_w hn11 (by decide) (by decide)) hq (z_mu (8) 1 hx6 en11 (by decide) (by decide) (by decide) (by decide))

set_option maxHeartbeats 4000000 in
set_option maxRecDepth 100000 in
theorem t_k_Sp_find_15_124 (t1 : Int64) (t2 : Int64) (t3 : Int32) (q : z_Sg) (ht3 : y_in t3 (13) (13)) (hq : iK q) : z_ok (k_Sp_find_15_124 t1 t2 t3 q) (fun o : Int32 × z_Sg => iK o.2 ∧ y_in o.1 (-1) (14)) := by
  unfold k_Sp_find_15_124
  refine z_ok_b (t_f_Pa_refusal t1 t2 t3 q (z_w ht3 (by decide) (by decide)) hq) (fun r14 hr14 => ?_)
  exact z_ok_s ⟨hr14.1, (z_w hr14.2 (by decide) (by decide))⟩

set_option maxHeartbeats 4000000 in
set_option maxRecDepth 100000 in
theorem t_k_Sp_find_15_69 (ih16 : Int64 × Int32 × Int32 × Int32 × z_Sg → Option (Int32 × z_Sg)) (x1 : Int64) (x4 : Int32) (x5 : Int32) (x6 : Int32) (x7 : Int64) (q : z_Sg) (hi16 : ∀ (x1' : Int64) (x4' : Int32) (x5' : Int32) (x6' : Int32) (q' : z_Sg), y_in x4' (0) (0) → y_in x5' (0) (0) → y_in x6' (0) (8) → iK q' → (8 - x6'.toInt).toNat < (8 - x6.toInt).toNat → z_ok (ih16 (x1', x4', x5', x6', q')) (fun o : Int32 × z_Sg => iK o.2 ∧ y_in o.1 (-1) (14))) (hx4 : y_in x4 (0) (0)) (hx5 : y_in x5 (0) (0)) (hx6 : y_in x6 (0) (7)) (hq : iK q) : z_ok (k_Sp_find_15_69 ih16 x1 x4 x5 x6 x7 q) (fun o : Int32 × z_Sg => iK o.2 ∧ y_in o.1 (-1) (14)) := by
  unfold k_Sp_find_15_69
  refine z_ok_b (t_f_Pa_locate x7 x4 q hq) (fun r6 hr6 => ?_)
  refine z_ok_g (z_nbad hx6 (by decide)) ?_
  refine z_ok_n (fun q8 eq8 => ?_)
  have hq8 : iK q8 := by rw [eq8]; exact (iK_sM hq)
  refine z_ok_g (z_nbad hx6 (by decide)) ?_
  refine z_ok_i (fun c62227 => ?_) (fun c62227 => ?_)
  · exact t_k_Sp_find_15_128 ih16 x1 x4 x5 x6 q8 hi16 hx4 hx5 hx6 hq8
  · refine z_ok_g (z_nbad hx6 (by decide)) ?_
    refine z_ok_i (fun c62228 => ?_) (fun c62228 => ?_)
    · exact t_k_Sp_find_15_124 x7 (z_gM q8 4 x6.toNatClampNeg) (13 : Int32) q8 (show y_in (13 : Int32) (13) (13) from ⟨by decide, by decide⟩) hq8
    · exact absurd (z_deadQn hx5 (show y_in (0 : Int32) (0) (0) from ⟨by decide, by decide⟩) (by decide)) c62228

set_option maxHeartbeats 4000000 in
set_option maxRecDepth 100000 in
theorem t_kb_Sp_find_15_16 (ih16 : Int64 × Int32 × Int32 × Int32 × z_Sg → Option (Int32 × z_Sg)) (x1 : Int64) (x4 : Int32) (x5 : Int32) (x6 : Int32) (q : z_Sg) (hi16 : ∀ (x1' : Int64) (x4' : Int32) (x5' : Int32) (x6' : Int32) (q' : z_Sg), y_in x4' (0) (0) → y_in x5' (0) (0) → y_in x6' (0) (8) → iK q' → (8 - x6'.toInt).toNat < (8 - x6.toInt).toNat → z_ok (ih16 (x1', x4', x5', x6', q')) (fun o : Int32 × z_Sg => iK o.2 ∧ y_in o.1 (-1) (14))) (hx4 : y_in x4 (0) (0)) (hx5 : y_in x5 (0) (0)) (hx6 : y_in x6 (0) (8)) (hq : iK q) : z_ok (kb_Sp_find_15_16 ih16 x1 x4 x5 x6 q) (fun o : Int32 × z_Sg => iK o.2 ∧ y_in o.1 (-1) (14)) := by
  unfold kb_Sp_find_15_16
  refine z_ok_i (fun c62229 => ?_) (fun c62229 => ?_)
  · exact z_ok_s ⟨hq, (z_w (show y_in (-1 : Int32) (-1) (-1) from ⟨by decide, by decide⟩) (by decide) (by decide))⟩
  · have z62230 : y_in (z_gI q 18) (1) (8) := z_w (z_nle1 c62229 (iK_f18 hq) hx6) (by decide) (by decide)
    have z62231 : y_in x6 (0) (7) := z_w (z_nle2 c62229 (iK_f18 hq) hx6) (by decide) (by decide)
    refine z_ok_n (fun n4 en4 => ?_)
    refine z_ok_i (fun c62232 => ?_) (fun c62232 => ?_)
    · have z62233 : y_in x6 (0) (0) := z_w (z_le1 c62232 z62231 (show y_in (0 : Int32) (0) (0) from ⟨by decide, by decide⟩)) (by decide) (by decide)
      exact t_k_Sp_find_15_69 ih16 x1 x4 x5 x6 n4 q hi16 hx4 hx5 (z_w z62233 (by decide) (by decide)) hq
    · have z62234 : y_in x6 (1) (7) := z_w (z_nle1 c62232 z62231 (show y_in (0 : Int32) (0) (0) from ⟨by decide, by decide⟩)) (by decide) (by decide)
      refine z_ok_i (fun c62235 => ?_) (fun c62235 => ?_)
      · exact t_k_Sp_find_15_69 ih16 x1 x4 x5 x6 n4 q hi16 hx4 hx5 (z_w z62234 (by decide) (by decide)) hq
      · refine z_ok_g (z_nbad (z_w (a' := 0) (b' := 6) (z_sub z62234 (show y_in (1 : Int32) (1) (1) from ⟨by decide, by decide⟩) (by decide) (by decide)) (by decide) (by decide)) (by decide)) ?_
        refine z_ok_g (z_nbad (z_w z62234 (by decide) (Int.le_refl _)) (by decide)) ?_
        refine z_ok_n (fun q18 eq18 => ?_)
        have hq18 : iK q18 := by rw [eq18]; exact (iK_sM hq)
        exact t_k_Sp_find_15_128 ih16 x1 x4 x5 x6 q18 hi16 hx4 hx5 (z_w z62234 (by decide) (by decide)) hq18

set_option maxHeartbeats 4000000 in
set_option maxRecDepth 100000 in
theorem t_k_Sp_find_15_16 (x1 : Int64) (x4 : Int32) (x5 : Int32) (x6 : Int32) (q : z_Sg) (hx4 : y_in x4 (0) (0)) (hx5 : y_in x5 (0) (0)) (hx6 : y_in x6 (0) (0)) (hq : iK q) : z_ok (k_Sp_find_15_16 x1 x4 x5 x6 q) (fun o : Int32 × z_Sg => iK o.2 ∧ y_in o.1 (-1) (14)) := by
  unfold k_Sp_find_15_16
  refine z_ok_l (fun a : Int64 × Int32 × Int32 × Int32 × z_Sg => y_in a.2.1 (0) (0) ∧ y_in a.2.2.1 (0) (0) ∧ y_in a.2.2.2.1 (0) (8) ∧ iK a.2.2.2.2) (fun a => (8 - a.2.2.2.1.toInt).toNat) ?_ (x1, x4, x5, x6, q) ⟨hx4, hx5, (z_w hx6 (by decide) (by decide)), hq⟩ (by show ((8 - x6.toInt).toNat) < 2000; have z1 := hx6.1; have z2 := hx6.2; omega)
  intro ih a ha hih
  exact t_kb_Sp_find_15_16 ih a.1 a.2.1 a.2.2.1 a.2.2.2.1 a.2.2.2.2 (fun x1' x4' x5' x6' q' hx4' hx5' hx6' hq' hm => hih (x1', x4', x5', x6', q') ⟨hx4', hx5', hx6', hq'⟩ hm) ha.1 ha.2.1 ha.2.2.1 ha.2.2.2

set_option maxHeartbeats 4000000 in
set_option maxRecDepth 100000 in
theorem t_f_Sp_find_15 (x1 : Int64) (x3 : Int32) (x4 : Int32) (x5 : Int32) (q : z_Sg) (hx3 : y_in x3 (1) (8)) (hx4 : y_in x4 (0) (0)) (hx5 : y_in x5 (0) (0)) (hq : iK q) : z_ok (f_Sp_find_15 x1 x3 x4 x5 q) (fun o : Int32 × z_Sg => iK o.2 ∧ y_in o.1 (-1) (14)) := by
  unfold f_Sp_find_15
  refine z_ok_b (t_f_Ma_min (e := 1) (f := 8) x3 (8 : Int32) q hx3 (show y_in (8 : Int32) (8) (8) from ⟨by decide, by decide⟩) (by decide) (by decide)) (fun r1 hr1 => ?_)
  refine z_ok_n (fun q2 eq2 => ?_)
  have hq2 : iK q2 := by rw [eq2]; exact (iK_sI18 hq (z_w hr1 (by decide) (by decide)))
  exact t_k_Sp_find_15_16 x1 x4 x5 (0 : Int32) q2 hx4 hx5 (show y_in (0 : Int32) (0) (0) from ⟨by decide, by decide⟩) hq2

set_option maxHeartbeats 4000000 in
set_option maxRecDepth 100000 in
theorem t_k_Sr_executeOnce_240 (t1 : Int32) (t2 : Int64) (t3 : Int64) (q : z_Sg) (ht1 : y_in t1 (7) (7)) (hq : iK q) : z_ok (k_Sr_executeOnce_240 t1 t2 t3 q) (fun o : Int32 × z_Sg => iK o.2 ∧ y_in o.1 (-1) (14)) := by
  unfold k_Sr_executeOnce_240
  refine z_ok_g (z_nbad (z_w ht1 (by decide) (Int.le_refl _)) (by decide)) ?_
  refine z_ok_n (fun q18 eq18 => ?_)
  have hq18 : iK q18 := by rw [eq18]; exact (iK_sM hq)
  exact z_ok_s ⟨hq18, (z_w (show y_in (-1 : Int32) (-1) (-1) from ⟨by decide, by decide⟩) (by decide) (by decide))⟩

set_option maxHeartbeats 4000000 in
set_option maxRecDepth 100000 in
theorem t_k_Sr_executeOnce_216 (x4 : Int32) (x7 : Int64) (t1 : Int32) (t2 : Int64) (t3 : Int64) (q : z_Sg) (hx4 : y_in x4 (0) (1)) (ht1 : y_in t1 (6) (6)) (hq : iK q) : z_ok (k_Sr_executeOnce_216 x4 x7 t1 t2 t3 q) (fun o : Int32 × z_Sg => iK o.2 ∧ y_in o.1 (-1) (14)) := by
  unfold k_Sr_executeOnce_216
  refine z_ok_g (z_nbad (z_w ht1 (by decide) (Int.le_refl _)) (by decide)) ?_
  refine z_ok_n (fun q14 eq14 => ?_)
  have hq14 : iK q14 := by rw [eq14]; exact (iK_sM hq)
  refine z_ok_g (z_nbad (z_w (show y_in (7 : Int32) (7) (7) from ⟨by decide, by decide⟩) (by decide) (Int.le_refl _)) (by decide)) ?_
  refine z_ok_i (fun c62236 => ?_) (fun c62236 => ?_)
  · have z62237 : y_in x4 (0) (0) := z_w (z_eq1 c62236 (show y_in (0 : Int32) (0) (0) from ⟨by decide, by decide⟩)) (by decide) (by decide)
    exact t_k_Sr_executeOnce_240 (7 : Int32) (z_gM q14 0 (7 : Int32).toNatClampNeg) (0 : Int64) q14 (show y_in (7 : Int32) (7) (7) from ⟨by decide, by decide⟩) hq14
  · have z62238 : y_in x4 (1) (1) := z_w (z_ne1 c62236 hx4 (by decide)) (by decide) (by decide)
    exact t_k_Sr_executeOnce_240 (7 : Int32) (z_gM q14 0 (7 : Int32).toNatClampNeg) x7 q14 (show y_in (7 : Int32) (7) (7) from ⟨by decide, by decide⟩) hq14

set_option maxHeartbeats 4000000 in
set_option maxRecDepth 100000 in
theorem t_k_Sr_executeOnce_193 (x3 : Int32) (x4 : Int32) (t0 : Int64) (q : z_Sg) (hx3 : y_in x3 (0) (1)) (hx4 : y_in x4 (0) (1)) (hq : iK q) : z_ok (k_Sr_executeOnce_193 x3 x4 t0 q) (fun o : Int32 × z_Sg => iK o.2 ∧ y_in o.1 (-1) (14)) := by
  unfold k_Sr_executeOnce_193
  refine z_ok_g (z_nbad (z_w (show y_in (6 : Int32) (6) (6) from ⟨by decide, by decide⟩) (by decide) (Int.le_refl _)) (by decide)) ?_
  refine z_ok_i (fun c62239 => ?_) (fun c62239 => ?_)
  · have z62240 : y_in x3 (0) (0) := z_w (z_eq1 c62239 (show y_in (0 : Int32) (0) (0) from ⟨by decide, by decide⟩)) (by decide) (by decide)
    exact t_k_Sr_executeOnce_216 x4 t0 (6 : Int32) (z_gM q 0 (6 : Int32).toNatClampNeg) (0 : Int64) q hx4 (show y_in (6 : Int32) (6) (6) from ⟨by decide, by decide⟩) hq
  · have z62241 : y_in x3 (1) (1) := z_w (z_ne1 c62239 hx3 (by decide)) (by decide) (by decide)
    exact t_k_Sr_executeOnce_216 x4 t0 (6 : Int32) (z_gM q 0 (6 : Int32).toNatClampNeg) t0 q hx4 (show y_in (6 : Int32) (6) (6) from ⟨by decide, by decide⟩) hq

set_option maxHeartbeats 4000000 in
set_option maxRecDepth 100000 in
theorem t_k_Sr_executeOnce_167 (x2 : Int32) (x3 : Int32) (x4 : Int32) (t1 : Int32) (t2 : Int64) (q : z_Sg) (hx2 : y_in x2 (1) (8)) (hx3 : y_in x3 (0) (1)) (hx4 : y_in x4 (0) (1)) (ht1 : y_in t1 (164) (174)) (hq : iK q) : z_ok (k_Sr_executeOnce_167 x2 x3 x4 t1 t2 q) (fun o : Int32 × z_Sg => iK o.2 ∧ y_in o.1 (-1) (14)) := by
  unfold k_Sr_executeOnce_167
  refine z_ok_b (t_f_Sr_use t1 t2 x2 q ht1 hx2 hq) (fun r9 hr9 => ?_)
  refine z_ok_i (fun c62242 => ?_) (fun c62242 => ?_)
  · have z62243 : y_in ((z_gI r9 0) &&& (1024 : Int32)) (0) (0) := z_w (z_eq1 c62242 (show y_in (0 : Int32) (0) (0) from ⟨by decide, by decide⟩)) (by decide) (by decide)
    exact t_k_Sr_executeOnce_193 x3 x4 x2.toInt64 r9 hx3 hx4 hr9
  · have z62244 : y_in ((z_gI r9 0) &&& (1024 : Int32)) (1) (1024) := z_w (z_ne1 c62242 (z_and (show y_in (1024 : Int32) (1024) (1024) from ⟨by decide, by decide⟩) (by decide)) (by decide)) (by decide) (by decide)
    exact t_k_Sr_executeOnce_193 x3 x4 ((-x2)).toInt64 r9 hx3 hx4 hr9

set_option maxHeartbeats 4000000 in
set_option maxRecDepth 100000 in
theorem t_k_Sr_executeOnce_133 (x1 : Int32) (x2 : Int32) (x3 : Int32) (x4 : Int32) (x6 : Int32) (q : z_Sg) (hx1 : y_in x1 (164) (174)) (hx2 : y_in x2 (1) (8)) (hx3 : y_in x3 (0) (1)) (hx4 : y_in x4 (0) (1)) (hx6 : y_in x6 (-1) (14)) (hq : iK q) : z_ok (k_Sr_executeOnce_133 x1 x2 x3 x4 x6 q) (fun o : Int32 × z_Sg => iK o.2 ∧ y_in o.1 (-1) (14)) := by
  unfold k_Sr_executeOnce_133
  refine z_ok_i (fun c62245 => ?_) (fun c62245 => ?_)
  · have z62246 : y_in x6 (-1) (-1) := z_w (z_eq1 c62245 (show y_in (-1 : Int32) (-1) (-1) from ⟨by decide, by decide⟩)) (by decide) (by decide)
    refine z_ok_i (fun c62247 => ?_) (fun c62247 => ?_)
    · have z62248 : y_in x3 (0) (0) := z_w (z_eq1 c62247 (show y_in (0 : Int32) (0) (0) from ⟨by decide, by decide⟩)) (by decide) (by decide)
      refine z_ok_b (t_f_Op_part (0 : Int32) x2 q (z_w (show y_in (0 : Int32) (0) (0) from ⟨by decide, by decide⟩) (by decide) (by decide)) (z_w hx2 (by decide) (by decide)) hq) (fun r8 hr8 => ?_)
      exact t_k_Sr_executeOnce_167 x2 x3 x4 x1 r8 q hx2 (z_w z62248 (by decide) (by decide)) hx4 hx1 hq
    · have z62249 : y_in x3 (1) (1) := z_w (z_ne1 c62247 hx3 (by decide)) (by decide) (by decide)
      refine z_ok_b (t_f_Sp_value_15 q hq) (fun r19 hr19 => ?_)
      exact t_k_Sr_executeOnce_167 x2 x3 x4 x1 r19 q hx2 (z_w z62249 (by decide) (by decide)) hx4 hx1 hq
  · have z62250 : y_in x6 (0) (14) := z_w (z_ne1 c62245 hx6 (by decide)) (by decide) (by decide)
    exact z_ok_s ⟨hq, (z_w z62250 (by decide) (by decide))⟩

set_option maxHeartbeats 4000000 in
set_option maxRecDepth 100000 in
theorem t_k_Sr_executeOnce_127 (x1 : Int32) (x2 : Int32) (x3 : Int32) (x4 : Int32) (t1 : Int64) (t2 : Int32) (t3 : Int32) (q : z_Sg) (hx1 : y_in x1 (164) (174)) (hx2 : y_in x2 (1) (8)) (hx3 : y_in x3 (0) (1)) (hx4 : y_in x4 (1) (1)) (ht2 : y_in t2 (1) (8)) (ht3 : y_in t3 (0) (1)) (hq : iK q) : z_ok (k_Sr_executeOnce_127 x1 x2 x3 x4 t1 t2 t3 q) (fun o : Int32 × z_Sg => iK o.2 ∧ y_in o.1 (-1) (14)) := by
  unfold k_Sr_executeOnce_127
  refine z_ok_b (t_f_Sp_find_17 t1 t2 t3 (0 : Int32) q ht2 ht3 (show y_in (0 : Int32) (0) (0) from ⟨by decide, by decide⟩) hq) (fun r23 hr23 => ?_)
  exact t_k_Sr_executeOnce_133 x1 x2 x3 x4 r23.1 r23.2 hx1 hx2 hx3 (z_w hx4 (by decide) (by decide)) hr23.2 hr23.1

set_option maxHeartbeats 4000000 in
set_option maxRecDepth 100000 in
theorem t_k_Sr_executeOnce_91 (x1 : Int32) (x2 : Int32) (x3 : Int32) (x4 : Int32) (x5 : Int32) (x6 : Int32) (q : z_Sg) (hx1 : y_in x1 (164) (174)) (hx2 : y_in x2 (1) (8)) (hx3 : y_in x3 (0) (1)) (hx4 : y_in x4 (0) (1)) (hx5 : y_in x5 (0) (1)) (hx6 : y_in x6 (-1) (14)) (hq : iK q) : z_ok (k_Sr_executeOnce_91 x1 x2 x3 x4 x5 x6 q) (fun o : Int32 × z_Sg => iK o.2 ∧ y_in o.1 (-1) (14)) := by
  unfold k_Sr_executeOnce_91
  refine z_ok_i (fun c62251 => ?_) (fun c62251 => ?_)
  · have z62252 : y_in x4 (0) (0) := z_w (z_eq1 c62251 (show y_in (0 : Int32) (0) (0) from ⟨by decide, by decide⟩)) (by decide) (by decide)
    exact t_k_Sr_executeOnce_133 x1 x2 x3 x4 x6 q hx1 hx2 hx3 (z_w z62252 (by decide) (by decide)) hx6 hq
  · have z62253 : y_in x4 (1) (1) := z_w (z_ne1 c62251 hx4 (by decide)) (by decide) (by decide)
    refine z_ok_i (fun c62254 => ?_) (fun c62254 => ?_)
    · have z62255 : y_in x6 (-1) (-1) := z_w (z_eq1 c62254 (show y_in (-1 : Int32) (-1) (-1) from ⟨by decide, by decide⟩)) (by decide) (by decide)
      refine z_ok_g (z_nbad (z_w (show y_in (7 : Int32) (7) (7) from ⟨by decide, by decide⟩) (by decide) (Int.le_refl _)) (by decide)) ?_
      refine z_ok_i (fun c62256 => ?_) (fun c62256 => ?_)
      · have z62257 : y_in x5 (0) (0) := z_w (z_eq1 c62256 (show y_in (0 : Int32) (0) (0) from ⟨by decide, by decide⟩)) (by decide) (by decide)
        exact t_k_Sr_executeOnce_127 x1 x2 x3 x4 (z_gM q 0 (7 : Int32).toNatClampNeg) x2 (0 : Int32) q hx1 hx2 hx3 z62253 hx2 (z_w (show y_in (0 : Int32) (0) (0) from ⟨by decide, by decide⟩) (by decide) (by decide)) hq
      · have z62258 : y_in x5 (1) (1) := z_w (z_ne1 c62256 hx5 (by decide)) (by decide) (by decide)
        exact t_k_Sr_executeOnce_127 x1 x2 x3 x4 (z_gM q 0 (7 : Int32).toNatClampNeg) x2 (1 : Int32) q hx1 hx2 hx3 z62253 hx2 (z_w (show y_in (1 : Int32) (1) (1) from ⟨by decide, by decide⟩) (by decide) (by decide)) hq
    · have z62259 : y_in x6 (0) (14) := z_w (z_ne1 c62254 hx6 (by decide)) (by decide) (by decide)
      exact t_k_Sr_executeOnce_133 x1 x2 x3 x4 x6 q hx1 hx2 hx3 (z_w z62253 (by decide) (by decide)) (z_w z62259 (by decide) (by decide)) hq

set_option maxHeartbeats 4000000 in
set_option maxRecDepth 100000 in
theorem t_k_Sr_executeOnce_60 (x1 : Int32) (x2 : Int32) (x3 : Int32) (x4 : Int32) (t0 : Int32) (q : z_Sg) (hx1 : y_in x1 (164) (174)) (hx2 : y_in x2 (1) (8)) (hx3 : y_in x3 (0) (1)) (hx4 : y_in x4 (0) (1)) (ht0 : y_in t0 (0) (1)) (hq : iK q) : z_ok (k_Sr_executeOnce_60 x1 x2 x3 x4 t0 q) (fun o : Int32 × z_Sg => iK o.2 ∧ y_in o.1 (-1) (14)) := by
  unfold k_Sr_executeOnce_60
  refine z_ok_i (fun c62260 => ?_) (fun c62260 => ?_)
  · have z62261 : y_in x3 (0) (0) := z_w (z_eq1 c62260 (show y_in (0 : Int32) (0) (0) from ⟨by decide, by decide⟩)) (by decide) (by decide)
    exact t_k_Sr_executeOnce_91 x1 x2 x3 x4 t0 (-1 : Int32) q hx1 hx2 (z_w z62261 (by decide) (by decide)) hx4 ht0 (z_w (show y_in (-1 : Int32) (-1) (-1) from ⟨by decide, by decide⟩) (by decide) (by decide)) hq
  · have z62262 : y_in x3 (1) (1) := z_w (z_ne1 c62260 hx3 (by decide)) (by decide) (by decide)
    refine z_ok_g (z_nbad (z_w (show y_in (6 : Int32) (6) (6) from ⟨by decide, by decide⟩) (by decide) (Int.le_refl _)) (by decide)) ?_
    refine z_ok_b (t_f_Sp_find_15 (z_gM q 0 (6 : Int32).toNatClampNeg) x2 (0 : Int32) (0 : Int32) q hx2 (show y_in (0 : Int32) (0) (0) from ⟨by decide, by decide⟩) (show y_in (0 : Int32) (0) (0) from ⟨by decide, by decide⟩) hq) (fun r25 hr25 => ?_)
    exact t_k_Sr_executeOnce_91 x1 x2 x3 x4 t0 r25.1 r25.2 hx1 hx2 (z_w z62262 (by decide) (by decide)) hx4 ht0 hr25.2 hr25.1

set_option maxHeartbeats 4000000 in
set_option maxRecDepth 100000 in
theorem t_k_Sr_executeOnce_55 (x1 : Int32) (x2 : Int32) (x3 : Int32) (x4 : Int32) (q : z_Sg) (hx1 : y_in x1 (164) (170)) (hx2 : y_in x2 (1) (8)) (hx3 : y_in x3 (0) (1)) (hx4 : y_in x4 (0) (1)) (hq : iK q) : z_ok (k_Sr_executeOnce_55 x1 x2 x3 x4 q) (fun o : Int32 × z_Sg => iK o.2 ∧ y_in o.1 (-1) (14)) := by
  unfold k_Sr_executeOnce_55
  exact t_k_Sr_executeOnce_60 x1 x2 x3 x4 (1 : Int32) q (z_w hx1 (by decide) (by decide)) hx2 hx3 hx4 (z_w (show y_in (1 : Int32) (1) (1) from ⟨by decide, by decide⟩) (by decide) (by decide)) hq

set_option maxHeartbeats 4000000 in
set_option maxRecDepth 100000 in
theorem t_k_Sr_executeOnce_39 (x1 : Int32) (x2 : Int32) (x3 : Int32) (t0 : Int32) (q : z_Sg) (hx1 : y_in x1 (164) (174)) (hx2 : y_in x2 (1) (8)) (hx3 : y_in x3 (0) (1)) (ht0 : y_in t0 (0) (1)) (hq : iK q) : z_ok (k_Sr_executeOnce_39 x1 x2 x3 t0 q) (fun o : Int32 × z_Sg => iK o.2 ∧ y_in o.1 (-1) (14)) := by
  unfold k_Sr_executeOnce_39
  refine z_ok_i (fun c62263 => ?_) (fun c62263 => ?_)
  · have z62264 : y_in x1 (164) (164) := z_w (z_eq1 c62263 (show y_in (164 : Int32) (164) (164) from ⟨by decide, by decide⟩)) (by decide) (by decide)
    exact t_k_Sr_executeOnce_55 x1 x2 x3 t0 q (z_w z62264 (by decide) (by decide)) hx2 hx3 ht0 hq
  · have z62265 : y_in x1 (165) (174) := z_w (z_ne1 c62263 hx1 (by decide)) (by decide) (by decide)
    refine z_ok_i (fun c62266 => ?_) (fun c62266 => ?_)
    · have z62267 : y_in x1 (170) (170) := z_w (z_eq1 c62266 (show y_in (170 : Int32) (170) (170) from ⟨by decide, by decide⟩)) (by decide) (by decide)
      exact t_k_Sr_executeOnce_55 x1 x2 x3 t0 q (z_w z62267 (by decide) (by decide)) hx2 hx3 ht0 hq
    · exact t_k_Sr_executeOnce_60 x1 x2 x3 t0 (0 : Int32) q (z_w z62265 (by decide) (by decide)) hx2 hx3 ht0 (z_w (show y_in (0 : Int32) (0) (0) from ⟨by decide, by decide⟩) (by decide) (by decide)) hq

set_option maxHeartbeats 4000000 in
set_option maxRecDepth 100000 in
theorem t_k_Sr_executeOnce_26 (x1 : Int32) (x2 : Int32) (t0 : Int32) (q : z_Sg) (hx1 : y_in x1 (164) (174)) (hx2 : y_in x2 (1) (8)) (ht0 : y_in t0 (0) (1)) (hq : iK q) : z_ok (k_Sr_executeOnce_26 x1 x2 t0 q) (fun o : Int32 × z_Sg => iK o.2 ∧ y_in o.1 (-1) (14)) := by
  unfold k_Sr_executeOnce_26
  refine z_ok_i (fun c62268 => ?_) (fun c62268 => ?_)
  · have z62269 : y_in x1 (172) (172) := z_w (z_eq1 c62268 (show y_in (172 : Int32) (172) (172) from ⟨by decide, by decide⟩)) (by decide) (by decide)
    exact t_k_Sr_executeOnce_39 x1 x2 t0 (0 : Int32) q (z_w z62269 (by decide) (by decide)) hx2 ht0 (z_w (show y_in (0 : Int32) (0) (0) from ⟨by decide, by decide⟩) (by decide) (by decide)) hq
  · exact t_k_Sr_executeOnce_39 x1 x2 t0 (1 : Int32) q hx1 hx2 ht0 (z_w (show y_in (1 : Int32) (1) (1) from ⟨by decide, by decide⟩) (by decide) (by decide)) hq

set_option maxHeartbeats 4000000 in
set_option maxRecDepth 100000 in
theorem t_k_Sr_executeOnce_21 (x1 : Int32) (x2 : Int32) (q : z_Sg) (hx1 : y_in x1 (164) (172)) (hx2 : y_in x2 (1) (8)) (hq : iK q) : z_ok (k_Sr_executeOnce_21 x1 x2 q) (fun o : Int32 × z_Sg => iK o.2 ∧ y_in o.1 (-1) (14)) := by
  unfold k_Sr_executeOnce_21
  exact t_k_Sr_executeOnce_26 x1 x2 (1 : Int32) q (z_w hx1 (by decide) (by decide)) hx2 (z_w (show y_in (1 : Int32) (1) (1) from ⟨by decide, by decide⟩) (by decide) (by decide)) hq

set_option maxHeartbeats 4000000 in
set_option maxRecDepth 100000 in
theorem t_f_Sr_executeOnce (x1 : Int32) (x2 : Int32) (q : z_Sg) (hx1 : y_in x1 (164) (174)) (hx2 : y_in x2 (1) (8)) (hq : iK q) : z_ok (f_Sr_executeOnce x1 x2 q) (fun o : Int32 × z_Sg => iK o.2 ∧ y_in o.1 (-1) (14)) := by
  unfold f_Sr_executeOnce
  refine z_ok_i (fun c62270 => ?_) (fun c62270 => ?_)
  · have z62271 : y_in x1 (164) (164) := z_w (z_eq1 c62270 (show y_in (164 : Int32) (164) (164) from ⟨by decide, by decide⟩)) (by decide) (by decide)
    exact t_k_Sr_executeOnce_21 x1 x2 q (z_w z62271 (by decide) (by decide)) hx2 hq
  · have z62272 : y_in x1 (165) (174) := z_w (z_ne1 c62270 hx1 (by decide)) (by decide) (by decide)
    refine z_ok_i (fun c62273 => ?_) (fun c62273 => ?_)
    · have z62274 : y_in x1 (166) (166) := z_w (z_eq1 c62273 (show y_in (166 : Int32) (166) (166) from ⟨by decide, by decide⟩)) (by decide) (by decide)
      exact t_k_Sr_executeOnce_21 x1 x2 q (z_w z62274 (by decide) (by decide)) hx2 hq
    · refine z_ok_i (fun c62275 => ?_) (fun c62275 => ?_)
      · have z62276 : y_in x1 (172) (172) := z_w (z_eq1 c62275 (show y_in (172 : Int32) (172) (172) from ⟨by decide, by decide⟩)) (by decide) (by decide)
        exact t_k_Sr_executeOnce_21 x1 x2 q (z_w z62276 (by decide) (by decide)) hx2 hq
      · exact t_k_Sr_executeOnce_26 x1 x2 (0 : Int32) q (z_w z62272 (by decide) (by decide)) hx2 (z_w (show y_in (0 : Int32) (0) (0) from ⟨by decide, by decide⟩) (by decide) (by decide)) hq

set_option maxHeartbeats 4000000 in
set_option maxRecDepth 100000 in
theorem t_k_Sr_goesOn_86 (t0 : Int32) (q : z_Sg) (ht0 : y_in t0 (0) (1)) (hq : iK q) : z_ok (k_Sr_goesOn_86 t0 q) (fun o : Int32 => y_in o (0) (1)) := by
  unfold k_Sr_goesOn_86
  refine z_ok_G (z_bi ht0) ?_
  exact z_ok_s ht0

set_option maxHeartbeats 4000000 in
set_option maxRecDepth 100000 in
theorem t_k_Sr_goesOn_81 (q : z_Sg) (hq : iK q) : z_ok (k_Sr_goesOn_81 q) (fun o : Int32 => y_in o (0) (1)) := by
  unfold k_Sr_goesOn_81
  exact t_k_Sr_goesOn_86 (1 : Int32) q (z_w (show y_in (1 : Int32) (1) (1) from ⟨by decide, by decide⟩) (by decide) (by decide)) hq

set_option maxHeartbeats 4000000 in
set_option maxRecDepth 100000 in
theorem t_k_Sr_goesOn_78 (t0 : Int32) (t1 : Int32) (q : z_Sg) (ht0 : y_in t0 (0) (1)) (ht1 : y_in t1 (0) (1)) (hq : iK q) : z_ok (k_Sr_goesOn_78 t0 t1 q) (fun o : Int32 => y_in o (0) (1)) := by
  unfold k_Sr_goesOn_78
  refine z_ok_i (fun c62277 => ?_) (fun c62277 => ?_)
  · exact t_k_Sr_goesOn_81 q hq
  · exact t_k_Sr_goesOn_86 (0 : Int32) q (z_w (show y_in (0 : Int32) (0) (0) from ⟨by decide, by decide⟩) (by decide) (by decide)) hq

set_option maxHeartbeats 4000000 in
set_option maxRecDepth 100000 in
theorem t_k_Sr_goesOn_54 (x2 : Int32) (t0 : Int32) (q : z_Sg) (hx2 : y_in x2 (0) (1)) (ht0 : y_in t0 (0) (1)) (hq : iK q) : z_ok (k_Sr_goesOn_54 x2 t0 q) (fun o : Int32 => y_in o (0) (1)) := by
  unfold k_Sr_goesOn_54
  refine z_ok_i (fun c62278 => ?_) (fun c62278 => ?_)
  · have z62279 : y_in x2 (0) (0) := z_w (z_eq1 c62278 (show y_in (0 : Int32) (0) (0) from ⟨by decide, by decide⟩)) (by decide) (by decide)
    exact t_k_Sr_goesOn_81 q hq
  · have z62280 : y_in x2 (1) (1) := z_w (z_ne1 c62278 hx2 (by decide)) (by decide) (by decide)
    refine z_ok_i (fun c62281 => ?_) (fun c62281 => ?_)
    · have z62282 : y_in (z_gI q 10) (243) (243) := z_w (z_eq1 c62281 (show y_in (243 : Int32) (243) (243) from ⟨by decide, by decide⟩)) (by decide) (by decide)
      exact t_k_Sr_goesOn_78 t0 (1 : Int32) q ht0 (z_w (show y_in (1 : Int32) (1) (1) from ⟨by decide, by decide⟩) (by decide) (by decide)) hq
    · exact t_k_Sr_goesOn_78 t0 (0 : Int32) q ht0 (z_w (show y_in (0 : Int32) (0) (0) from ⟨by decide, by decide⟩) (by decide) (by decide)) hq

set_option maxHeartbeats 4000000 in
set_option maxRecDepth 100000 in
theorem t_k_Sr_goesOn_35 (t0 : Int32) (q : z_Sg) (ht0 : y_in t0 (0) (1)) (hq : iK q) : z_ok (k_Sr_goesOn_35 t0 q) (fun o : Int32 => y_in o (0) (1)) := by
  unfold k_Sr_goesOn_35
  refine z_ok_i (fun c62283 => ?_) (fun c62283 => ?_)
  · have z62284 : y_in ((z_gI q 0) &&& (64 : Int32)) (0) (0) := z_w (z_eq1 c62283 (show y_in (0 : Int32) (0) (0) from ⟨by decide, by decide⟩)) (by decide) (by decide)
    exact t_k_Sr_goesOn_54 t0 (0 : Int32) q ht0 (z_w (show y_in (0 : Int32) (0) (0) from ⟨by decide, by decide⟩) (by decide) (by decide)) hq
  · have z62285 : y_in ((z_gI q 0) &&& (64 : Int32)) (1) (64) := z_w (z_ne1 c62283 (z_and (show y_in (64 : Int32) (64) (64) from ⟨by decide, by decide⟩) (by decide)) (by decide)) (by decide) (by decide)
    exact t_k_Sr_goesOn_54 t0 (1 : Int32) q ht0 (z_w (show y_in (1 : Int32) (1) (1) from ⟨by decide, by decide⟩) (by decide) (by decide)) hq

set_option maxHeartbeats 4000000 in
set_option maxRecDepth 100000 in
theorem t_k_Sr_goesOn_30 (q : z_Sg) (hq : iK q) : z_ok (k_Sr_goesOn_30 q) (fun o : Int32 => y_in o (0) (1)) := by
  unfold k_Sr_goesOn_30
  exact t_k_Sr_goesOn_35 (1 : Int32) q (z_w (show y_in (1 : Int32) (1) (1) from ⟨by decide, by decide⟩) (by decide) (by decide)) hq

set_option maxHeartbeats 4000000 in
set_option maxRecDepth 100000 in
theorem t_f_Sr_goesOn (x1 : Int32) (q : z_Sg) (hx1 : y_in x1 (164) (174)) (hq : iK q) : z_ok (f_Sr_goesOn x1 q) (fun o : Int32 => y_in o (0) (1)) := by
  unfold f_Sr_goesOn
  refine z_ok_g (z_nbad (z_w (show y_in (1 : Int32) (1) (1) from ⟨by decide, by decide⟩) (by decide) (Int.le_refl _)) (by decide)) ?_
  refine z_ok_i (fun c62286 => ?_) (fun c62286 => ?_)
  · exact z_ok_s (z_w (show y_in (0 : Int32) (0) (0) from ⟨by decide, by decide⟩) (by decide) (by decide))
  · refine z_ok_i (fun c62287 => ?_) (fun c62287 => ?_)
    · have z62288 : y_in x1 (166) (166) := z_w (z_eq1 c62287 (show y_in (166 : Int32) (166) (166) from ⟨by decide, by decide⟩)) (by decide) (by decide)
      exact t_k_Sr_goesOn_30 q hq
    · refine z_ok_i (fun c62289 => ?_) (fun c62289 => ?_)
      · have z62290 : y_in x1 (174) (174) := z_w (z_eq1 c62289 (show y_in (174 : Int32) (174) (174) from ⟨by decide, by decide⟩)) (by decide) (by decide)
        exact t_k_Sr_goesOn_30 q hq
      · have z62291 : y_in x1 (164) (173) := z_w (z_ne2 c62289 hx1 (by decide)) (by decide) (by decide)
        exact t_k_Sr_goesOn_35 (0 : Int32) q (z_w (show y_in (0 : Int32) (0) (0) from ⟨by decide, by decide⟩) (by decide) (by decide)) hq

set_option maxHeartbeats 4000000 in
set_option maxRecDepth 100000 in
theorem t_k_Sr_execute_32 (q : z_Sg) (hq : iK q) : z_ok (k_Sr_execute_32 q) (fun o : Int32 × z_Sg => iK o.2 ∧ y_in o.1 (-2) (14)) := by
  unfold k_Sr_execute_32
  exact z_ok_s ⟨hq, (z_w (show y_in (-2 : Int32) (-2) (-2) from ⟨by decide, by decide⟩) (by decide) (by decide))⟩

set_option maxHeartbeats 4000000 in
set_option maxRecDepth 100000 in
theorem t_k_Sr_execute_148 (x4 : Int32) (q : z_Sg) (hx4 : y_in x4 (-1) (14)) (hq : iK q) : z_ok (k_Sr_execute_148 x4 q) (fun o : Int32 × z_Sg => iK o.2 ∧ y_in o.1 (-2) (14)) := by
  unfold k_Sr_execute_148
  exact z_ok_s ⟨hq, (z_w hx4 (by decide) (by decide))⟩

set_option maxHeartbeats 4000000 in
set_option maxRecDepth 100000 in
theorem t_k_Sr_execute_94 (x1 : Int32) (x2 : Int32) (t0 : Int32) (q : z_Sg) (hx1 : y_in x1 (164) (174)) (hx2 : y_in x2 (0) (1)) (ht0 : y_in t0 (1) (8)) (hq : iK q) : z_ok (k_Sr_execute_94 x1 x2 t0 q) (fun o : Int32 × z_Sg => iK o.2 ∧ y_in o.1 (-2) (14)) := by
  unfold k_Sr_execute_94
  refine z_ok_b (t_f_Sr_executeOnce x1 t0 q hx1 ht0 hq) (fun r9 hr9 => ?_)
  refine z_ok_i (fun c62292 => ?_) (fun c62292 => ?_)
  · have z62293 : y_in r9.1 (-1) (-1) := z_w (z_eq1 c62292 (show y_in (-1 : Int32) (-1) (-1) from ⟨by decide, by decide⟩)) (by decide) (by decide)
    refine z_ok_i (fun c62294 => ?_) (fun c62294 => ?_)
    · have z62295 : y_in x2 (0) (0) := z_w (z_eq1 c62294 (show y_in (0 : Int32) (0) (0) from ⟨by decide, by decide⟩)) (by decide) (by decide)
      exact t_k_Sr_execute_148 r9.1 r9.2 (z_w z62293 (by decide) (by decide)) hr9.1
    · have z62296 : y_in x2 (1) (1) := z_w (z_ne1 c62294 hx2 (by decide)) (by decide) (by decide)
      refine z_ok_g (z_nbad (z_w (show y_in (1 : Int32) (1) (1) from ⟨by decide, by decide⟩) (by decide) (Int.le_refl _)) (by decide)) ?_
      refine z_ok_g (z_nbad (z_w (show y_in (1 : Int32) (1) (1) from ⟨by decide, by decide⟩) (by decide) (Int.le_refl _)) (by decide)) ?_
      refine z_ok_n (fun q14 eq14 => ?_)
      have hq14 : iK q14 := by rw [eq14]; exact (iK_sM hr9.1)
      refine z_ok_b (t_f_Sr_goesOn x1 q14 hx1 hq14) (fun r15 hr15 => ?_)
      refine z_ok_i (fun c62297 => ?_) (fun c62297 => ?_)
      · have z62298 : y_in r15 (0) (0) := z_w (z_eq1 c62297 (show y_in (0 : Int32) (0) (0) from ⟨by decide, by decide⟩)) (by decide) (by decide)
        exact t_k_Sr_execute_148 r9.1 q14 (z_w z62293 (by decide) (by decide)) hq14
      · have z62299 : y_in r15 (1) (1) := z_w (z_ne1 c62297 hr15 (by decide)) (by decide) (by decide)
        refine z_ok_n (fun q17 eq17 => ?_)
        have hq17 : iK q17 := by rw [eq17]; exact (iK_sL hq14)
        exact t_k_Sr_execute_148 r9.1 q17 (z_w z62293 (by decide) (by decide)) hq17
  · have z62300 : y_in r9.1 (0) (14) := z_w (z_ne1 c62292 hr9.2 (by decide)) (by decide) (by decide)
    exact t_k_Sr_execute_148 r9.1 r9.2 (z_w z62300 (by decide) (by decide)) hr9.1

set_option maxHeartbeats 4000000 in
set_option maxRecDepth 100000 in
theorem t_k_Sr_execute_71 (x1 : Int32) (x2 : Int32) (q : z_Sg) (hx1 : y_in x1 (164) (174)) (hx2 : y_in x2 (0) (1)) (hq : iK q) : z_ok (k_Sr_execute_71 x1 x2 q) (fun o : Int32 × z_Sg => iK o.2 ∧ y_in o.1 (-2) (14)) := by
  unfold k_Sr_execute_71
  refine z_ok_i (fun c62301 => ?_) (fun c62301 => ?_)
  · have z62302 : y_in ((z_gI q 11) &&& (1 : Int32)) (0) (0) := z_w (z_eq1 c62301 (show y_in (0 : Int32) (0) (0) from ⟨by decide, by decide⟩)) (by decide) (by decide)
    exact t_k_Sr_execute_94 x1 x2 (1 : Int32) q hx1 hx2 (z_w (show y_in (1 : Int32) (1) (1) from ⟨by decide, by decide⟩) (by decide) (by decide)) hq
  · have z62303 : y_in ((z_gI q 11) &&& (1 : Int32)) (1) (1) := z_w (z_ne1 c62301 (z_and (show y_in (1 : Int32) (1) (1) from ⟨by decide, by decide⟩) (by decide)) (by decide)) (by decide) (by decide)
    refine z_ok_b (t_f_De_sizeV q hq) (fun r8 hr8 => ?_)
    exact t_k_Sr_execute_94 x1 x2 r8 q hx1 hx2 (z_w hr8 (by decide) (by decide)) hq

set_option maxHeartbeats 4000000 in
set_option maxRecDepth 100000 in
theorem t_k_Sr_execute_50 (x1 : Int32) (t0 : Int32) (q : z_Sg) (hx1 : y_in x1 (164) (174)) (ht0 : y_in t0 (0) (1)) (hq : iK q) : z_ok (k_Sr_execute_50 x1 t0 q) (fun o : Int32 × z_Sg => iK o.2 ∧ y_in o.1 (-2) (14)) := by
  unfold k_Sr_execute_50
  refine z_ok_i (fun c62304 => ?_) (fun c62304 => ?_)
  · have z62305 : y_in t0 (0) (0) := z_w (z_eq1 c62304 (show y_in (0 : Int32) (0) (0) from ⟨by decide, by decide⟩)) (by decide) (by decide)
    exact t_k_Sr_execute_71 x1 t0 q hx1 (z_w z62305 (by decide) (by decide)) hq
  · have z62306 : y_in t0 (1) (1) := z_w (z_ne1 c62304 ht0 (by decide)) (by decide) (by decide)
    refine z_ok_g (z_nbad (z_w (show y_in (1 : Int32) (1) (1) from ⟨by decide, by decide⟩) (by decide) (Int.le_refl _)) (by decide)) ?_
    refine z_ok_i (fun c62307 => ?_) (fun c62307 => ?_)
    · exact z_ok_s ⟨hq, (z_w (show y_in (-1 : Int32) (-1) (-1) from ⟨by decide, by decide⟩) (by decide) (by decide))⟩
    · exact t_k_Sr_execute_71 x1 t0 q hx1 (z_w z62306 (by decide) (by decide)) hq

set_option maxHeartbeats 4000000 in
set_option maxRecDepth 100000 in
theorem t_f_Sr_execute (q : z_Sg) (hq : iK q) : z_ok (f_Sr_execute q) (fun o : Int32 × z_Sg => iK o.2 ∧ y_in o.1 (-2) (14)) := by
  unfold f_Sr_execute
  refine z_ok_n (fun n1 en1 => ?_)
  have hn1 : y_in n1 (0) (511) := z_e en1 (z_andl (iK_f11 hq) (by decide))
  refine z_ok_i (fun c62308 => ?_) (fun c62308 => ?_)
  · have z62309 : y_in n1 (0) (163) := z_w (z_lt1 c62308 hn1 (show y_in (164 : Int32) (164) (164) from ⟨by decide, by decide⟩)) (by decide) (by decide)
    exact t_k_Sr_execute_32 q hq
  · have z62310 : y_in n1 (164) (511) := z_w (z_nlt1 c62308 hn1 (show y_in (164 : Int32) (164) (164) from ⟨by decide, by decide⟩)) (by decide) (by decide)
    refine z_ok_i (fun c62311 => ?_) (fun c62311 => ?_)
    · have z62312 : y_in n1 (175) (511) := z_w (z_lt2 c62311 (show y_in (174 : Int32) (174) (174) from ⟨by decide, by decide⟩) z62310) (by decide) (by decide)
      exact t_k_Sr_execute_32 q hq
    · have z62313 : y_in n1 (164) (174) := z_w (z_nlt2 c62311 (show y_in (174 : Int32) (174) (174) from ⟨by decide, by decide⟩) z62310) (by decide) (by decide)
      refine z_ok_i (fun c62314 => ?_) (fun c62314 => ?_)
      · have z62315 : y_in n1 (168) (168) := z_w (z_eq1 c62314 (show y_in (168 : Int32) (168) (168) from ⟨by decide, by decide⟩)) (by decide) (by decide)
        exact t_k_Sr_execute_32 q hq
      · refine z_ok_i (fun c62316 => ?_) (fun c62316 => ?_)
        · have z62317 : y_in (z_gI q 10) (0) (0) := z_w (z_eq1 c62316 (show y_in (0 : Int32) (0) (0) from ⟨by decide, by decide⟩)) (by decide) (by decide)
          exact t_k_Sr_execute_50 n1 (0 : Int32) q z62313 (z_w (show y_in (0 : Int32) (0) (0) from ⟨by decide, by decide⟩) (by decide) (by decide)) hq
        · have z62318 : y_in (z_gI q 10) (1) (255) := z_w (z_ne1 c62316 (iK_f10 hq) (by decide)) (by decide) (by decide)
          exact t_k_Sr_execute_50 n1 (1 : Int32) q z62313 (z_w (show y_in (1 : Int32) (1) (1) from ⟨by decide, by decide⟩) (by decide) (by decide)) hq

set_option maxHeartbeats 4000000 in
set_option maxRecDepth 100000 in
theorem t_k_Op_bytesOfE_153 (t0 : Int32) (q : z_Sg) (ht0 : y_in t0 (2) (8)) (hq : iK q) : z_ok (k_Op_bytesOfE_153 t0 q) (fun o : Int32 => y_in o (1) (8)) := by
  unfold k_Op_bytesOfE_153
  exact z_ok_s (z_w ht0 (by decide) (by decide))

set_option maxHeartbeats 4000000 in
set_option maxRecDepth 100000 in
theorem t_k_Op_bytesOfE_154 (q : z_Sg) (hq : iK q) : z_ok (k_Op_bytesOfE_154 q) (fun o : Int32 => y_in o (1) (8)) := by
  unfold k_Op_bytesOfE_154
  exact z_ok_s (z_w (show y_in (1 : Int32) (1) (1) from ⟨by decide, by decide⟩) (by decide) (by decide))

set_option maxHeartbeats 4000000 in
set_option maxRecDepth 100000 in
theorem t_k_Op_bytesOfE_156 (q : z_Sg) (hq : iK q) : z_ok (k_Op_bytesOfE_156 q) (fun o : Int32 => y_in o (1) (8)) := by
  unfold k_Op_bytesOfE_156
  exact z_ok_s (z_w (show y_in (2 : Int32) (2) (2) from ⟨by decide, by decide⟩) (by decide) (by decide))

set_option maxHeartbeats 4000000 in
set_option maxRecDepth 100000 in
theorem t_k_Op_bytesOfE_223 (t0 : Int32) (q : z_Sg) (ht0 : y_in t0 (1) (8)) (hq : iK q) : z_ok (k_Op_bytesOfE_223 t0 q) (fun o : Int32 => y_in o (1) (8)) := by
  unfold k_Op_bytesOfE_223
  exact z_ok_s ht0

set_option maxHeartbeats 4000000 in
set_option maxRecDepth 100000 in
theorem t_k_Op_bytesOfE_194 (t0 : Int32) (q : z_Sg) (ht0 : y_in t0 (1) (8)) (hq : iK q) : z_ok (k_Op_bytesOfE_194 t0 q) (fun o : Int32 => y_in o (1) (8)) := by
  unfold k_Op_bytesOfE_194
  exact z_ok_s ht0

set_option maxHeartbeats 4000000 in
set_option maxRecDepth 100000 in
theorem t_f_Op_bytesOfE (q : z_Sg) (hq : iK q) : z_ok (f_Op_bytesOfE q) (fun o : Int32 => y_in o (1) (8)) := by
  unfold f_Op_bytesOfE
  refine z_ok_i (fun c62319 => ?_) (fun c62319 => ?_)
  · have z62320 : y_in (z_gI q 11) (99) (99) := z_w (z_eq1 c62319 (show y_in (99 : Int32) (99) (99) from ⟨by decide, by decide⟩)) (by decide) (by decide)
    refine z_ok_b (t_f_De_sizeV q hq) (fun r2 hr2 => ?_)
    refine z_ok_b (t_f_Ma_min (e := 2) (f := 4) r2 (4 : Int32) q hr2 (show y_in (4 : Int32) (4) (4) from ⟨by decide, by decide⟩) (by decide) (by decide)) (fun r3 hr3 => ?_)
    exact z_ok_s (z_w hr3 (by decide) (by decide))
  · refine z_ok_i (fun c62321 => ?_) (fun c62321 => ?_)
    · have z62322 : y_in (z_gI q 11) (143) (143) := z_w (z_eq1 c62321 (show y_in (143 : Int32) (143) (143) from ⟨by decide, by decide⟩)) (by decide) (by decide)
      refine z_ok_b (t_f_De_sizeOnStack q hq) (fun r5 hr5 => ?_)
      exact z_ok_s (z_w hr5 (by decide) (by decide))
    · refine z_ok_i (fun c62323 => ?_) (fun c62323 => ?_)
      · have z62324 : y_in (z_gI q 11) (255) (255) := z_w (z_eq1 c62323 (show y_in (255 : Int32) (255) (255) from ⟨by decide, by decide⟩)) (by decide) (by decide)
        refine z_ok_i (fun c62325 => ?_) (fun c62325 => ?_)
        · have z62326 : y_in (z_gI q 13) (6) (6) := z_w (z_eq1 c62325 (show y_in (6 : Int32) (6) (6) from ⟨by decide, by decide⟩)) (by decide) (by decide)
          refine z_ok_b (t_f_De_sizeOnStack q hq) (fun r10 hr10 => ?_)
          exact t_k_Op_bytesOfE_153 r10 q hr10 hq
        · refine z_ok_i (fun c62327 => ?_) (fun c62327 => ?_)
          · have z62328 : y_in (z_gI q 13) (2) (7) := z_w (z_le2 c62327 (show y_in (2 : Int32) (2) (2) from ⟨by decide, by decide⟩) (iK_f13 hq)) (by decide) (by decide)
            exact t_k_Op_bytesOfE_153 (8 : Int32) q (z_w (show y_in (8 : Int32) (8) (8) from ⟨by decide, by decide⟩) (by decide) (by decide)) hq
          · have z62329 : y_in (z_gI q 13) (0) (1) := z_w (z_nle2 c62327 (show y_in (2 : Int32) (2) (2) from ⟨by decide, by decide⟩) (iK_f13 hq)) (by decide) (by decide)
            refine z_ok_b (t_f_De_sizeV q hq) (fun r9 hr9 => ?_)
            exact t_k_Op_bytesOfE_153 r9 q hr9 hq
      · refine z_ok_i (fun c62330 => ?_) (fun c62330 => ?_)
        · have z62331 : y_in (z_gI q 11) (432) (432) := z_w (z_eq1 c62330 (show y_in (432 : Int32) (432) (432) from ⟨by decide, by decide⟩)) (by decide) (by decide)
          exact t_k_Op_bytesOfE_154 q hq
        · refine z_ok_i (fun c62332 => ?_) (fun c62332 => ?_)
          · have z62333 : y_in (z_gI q 11) (438) (438) := z_w (z_eq1 c62332 (show y_in (438 : Int32) (438) (438) from ⟨by decide, by decide⟩)) (by decide) (by decide)
            exact t_k_Op_bytesOfE_154 q hq
          · refine z_ok_i (fun c62334 => ?_) (fun c62334 => ?_)
            · have z62335 : y_in (z_gI q 11) (439) (439) := z_w (z_eq1 c62334 (show y_in (439 : Int32) (439) (439) from ⟨by decide, by decide⟩)) (by decide) (by decide)
              exact t_k_Op_bytesOfE_156 q hq
            · refine z_ok_i (fun c62336 => ?_) (fun c62336 => ?_)
              · have z62337 : y_in (z_gI q 11) (446) (446) := z_w (z_eq1 c62336 (show y_in (446 : Int32) (446) (446) from ⟨by decide, by decide⟩)) (by decide) (by decide)
                exact t_k_Op_bytesOfE_154 q hq
              · refine z_ok_i (fun c62338 => ?_) (fun c62338 => ?_)
                · have z62339 : y_in (z_gI q 11) (447) (447) := z_w (z_eq1 c62338 (show y_in (447 : Int32) (447) (447) from ⟨by decide, by decide⟩)) (by decide) (by decide)
                  exact t_k_Op_bytesOfE_156 q hq
                · refine z_ok_i (fun c62340 => ?_) (fun c62340 => ?_)
                  · have z62341 : y_in (z_gI q 11) (448) (448) := z_w (z_eq1 c62340 (show y_in (448 : Int32) (448) (448) from ⟨by decide, by decide⟩)) (by decide) (by decide)
                    exact t_k_Op_bytesOfE_154 q hq
                  · refine z_ok_i (fun c62342 => ?_) (fun c62342 => ?_)
                    · have z62343 : y_in (z_gI q 11) (256) (511) := z_w (z_le2 c62342 (show y_in (256 : Int32) (256) (256) from ⟨by decide, by decide⟩) (iK_f11 hq)) (by decide) (by decide)
                      refine z_ok_i (fun c62344 => ?_) (fun c62344 => ?_)
                      · have z62345 : y_in ((z_gI q 11) &&& (240 : Int32)) (144) (144) := z_w (z_eq1 c62344 (show y_in (144 : Int32) (144) (144) from ⟨by decide, by decide⟩)) (by decide) (by decide)
                        exact t_k_Op_bytesOfE_223 (1 : Int32) q (z_w (show y_in (1 : Int32) (1) (1) from ⟨by decide, by decide⟩) (by decide) (by decide)) hq
                      · refine z_ok_b (t_f_De_sizeV q hq) (fun r19 hr19 => ?_)
                        exact t_k_Op_bytesOfE_223 r19 q (z_w hr19 (by decide) (by decide)) hq
                    · have z62346 : y_in (z_gI q 11) (0) (255) := z_w (z_nle2 c62342 (show y_in (256 : Int32) (256) (256) from ⟨by decide, by decide⟩) (iK_f11 hq)) (by decide) (by decide)
                      refine z_ok_i (fun c62347 => ?_) (fun c62347 => ?_)
                      · have z62348 : y_in ((z_gI q 11) &&& (1 : Int32)) (0) (0) := z_w (z_eq1 c62347 (show y_in (0 : Int32) (0) (0) from ⟨by decide, by decide⟩)) (by decide) (by decide)
                        exact t_k_Op_bytesOfE_194 (1 : Int32) q (z_w (show y_in (1 : Int32) (1) (1) from ⟨by decide, by decide⟩) (by decide) (by decide)) hq
                      · have z62349 : y_in ((z_gI q 11) &&& (1 : Int32)) (1) (1) := z_w (z_ne1 c62347 (z_and (show y_in (1 : Int32) (1) (1) from ⟨by decide, by decide⟩) (by decide)) (by decide)) (by decide) (by decide)
                        refine z_ok_b (t_f_De_sizeV q hq) (fun r21 hr21 => ?_)
                        exact t_k_Op_bytesOfE_194 r21 q (z_w hr21 (by decide) (by decide)) hq


theorem t_f_Ma_floorDiv (x0 x2 : Int64) (q : z_Sg) (h : ¬ x2 = 0) : z_ok (f_Ma_floorDiv x0 x2 q) (fun _ : Int64 => True) := by
  unfold f_Ma_floorDiv k_Ma_floorDiv_27
  refine z_ok_g h ?_
  refine z_ok_n (fun n2 en2 => ?_)
  refine z_ok_i (fun c => z_ok_s trivial) (fun c => ?_)
  exact z_ok_i (fun c => z_ok_s trivial) (fun c => z_ok_s trivial)

theorem t_k_Op_bitDistance_48 (q : z_Sg) (hq : iK q) (hb : y_in (z_gI q 15) 1 8) : z_ok (k_Op_bitDistance_48 q) (fun _ : Int64 => True) := by
  unfold k_Op_bitDistance_48
  refine z_ok_b (t_f_Op_g (z_gI q 15) q (z_w hb (by decide) (by decide)) hq) (fun r2 hr2 => ?_)
  refine z_ok_b (t_f_Ar_signed r2 (z_gI q 15) q (z_w hb (by decide) (by decide)) hq) (fun r3 hr3 => ?_)
  refine z_ok_b (t_f_Ma_floorDiv r3 (8 * (z_gI q 15).toInt64) q (z_8n hb)) (fun r4 hr4 => ?_)
  exact z_ok_s trivial

theorem t_f_Op_bitDistance (q : z_Sg) (hq : iK q) (hb : y_in (z_gI q 15) 1 8) : z_ok (f_Op_bitDistance q) (fun _ : Int64 => True) := by
  unfold f_Op_bitDistance
  refine z_ok_i (fun c => t_k_Op_bitDistance_48 q hq hb) (fun c => ?_)
  refine z_ok_i (fun c => t_k_Op_bitDistance_48 q hq hb) (fun c => ?_)
  refine z_ok_i (fun c => t_k_Op_bitDistance_48 q hq hb) (fun c => ?_)
  exact z_ok_i (fun c => t_k_Op_bitDistance_48 q hq hb) (fun c => z_ok_s trivial)

set_option maxHeartbeats 4000000 in
set_option maxRecDepth 100000 in
theorem t_k_Op_isWritten_289 (t0 : Int32) (q : z_Sg) (ht0 : y_in t0 (0) (1)) (hq : iK q) : z_ok (k_Op_isWritten_289 t0 q) (fun o : Int32 => y_in o (0) (1)) := by
  unfold k_Op_isWritten_289
  refine z_ok_G (z_bi ht0) ?_
  exact z_ok_s ht0

set_option maxHeartbeats 4000000 in
set_option maxRecDepth 100000 in
theorem t_k_Op_isWritten_272 (q : z_Sg) (hq : iK q) : z_ok (k_Op_isWritten_272 q) (fun o : Int32 => y_in o (0) (1)) := by
  unfold k_Op_isWritten_272
  refine z_ok_i (fun c62350 => ?_) (fun c62350 => ?_)
  · have z62351 : y_in (z_gI q 13) (7) (7) := z_w (z_eq1 c62350 (show y_in (7 : Int32) (7) (7) from ⟨by decide, by decide⟩)) (by decide) (by decide)
    exact t_k_Op_isWritten_289 (0 : Int32) q (z_w (show y_in (0 : Int32) (0) (0) from ⟨by decide, by decide⟩) (by decide) (by decide)) hq
  · have z62352 : y_in (z_gI q 13) (0) (6) := z_w (z_ne2 c62350 (iK_f13 hq) (by decide)) (by decide) (by decide)
    exact t_k_Op_isWritten_289 (1 : Int32) q (z_w (show y_in (1 : Int32) (1) (1) from ⟨by decide, by decide⟩) (by decide) (by decide)) hq

set_option maxHeartbeats 4000000 in
set_option maxRecDepth 100000 in
theorem t_k_Op_isWritten_290 (q : z_Sg) (hq : iK q) : z_ok (k_Op_isWritten_290 q) (fun o : Int32 => y_in o (0) (1)) := by
  unfold k_Op_isWritten_290
  exact z_ok_s (z_w (show y_in (1 : Int32) (1) (1) from ⟨by decide, by decide⟩) (by decide) (by decide))

set_option maxHeartbeats 4000000 in
set_option maxRecDepth 100000 in
theorem t_k_Op_isWritten_319 (t0 : Int32) (q : z_Sg) (ht0 : y_in t0 (0) (1)) (hq : iK q) : z_ok (k_Op_isWritten_319 t0 q) (fun o : Int32 => y_in o (0) (1)) := by
  unfold k_Op_isWritten_319
  refine z_ok_G (z_bi ht0) ?_
  exact z_ok_s ht0

set_option maxHeartbeats 4000000 in
set_option maxRecDepth 100000 in
theorem t_k_Op_isWritten_314 (q : z_Sg) (hq : iK q) : z_ok (k_Op_isWritten_314 q) (fun o : Int32 => y_in o (0) (1)) := by
  unfold k_Op_isWritten_314
  exact t_k_Op_isWritten_319 (1 : Int32) q (z_w (show y_in (1 : Int32) (1) (1) from ⟨by decide, by decide⟩) (by decide) (by decide)) hq

set_option maxHeartbeats 4000000 in
set_option maxRecDepth 100000 in
theorem t_k_Op_isWritten_292 (q : z_Sg) (hq : iK q) : z_ok (k_Op_isWritten_292 q) (fun o : Int32 => y_in o (0) (1)) := by
  unfold k_Op_isWritten_292
  refine z_ok_i (fun c62353 => ?_) (fun c62353 => ?_)
  · have z62354 : y_in (z_gI q 13) (2) (2) := z_w (z_eq1 c62353 (show y_in (2 : Int32) (2) (2) from ⟨by decide, by decide⟩)) (by decide) (by decide)
    exact t_k_Op_isWritten_314 q hq
  · refine z_ok_i (fun c62355 => ?_) (fun c62355 => ?_)
    · have z62356 : y_in (z_gI q 13) (3) (3) := z_w (z_eq1 c62355 (show y_in (3 : Int32) (3) (3) from ⟨by decide, by decide⟩)) (by decide) (by decide)
      exact t_k_Op_isWritten_314 q hq
    · exact t_k_Op_isWritten_319 (0 : Int32) q (z_w (show y_in (0 : Int32) (0) (0) from ⟨by decide, by decide⟩) (by decide) (by decide)) hq

set_option maxHeartbeats 4000000 in
set_option maxRecDepth 100000 in
theorem t_k_Op_isWritten_336 (t0 : Int32) (q : z_Sg) (ht0 : y_in t0 (0) (1)) (hq : iK q) : z_ok (k_Op_isWritten_336 t0 q) (fun o : Int32 => y_in o (0) (1)) := by
  unfold k_Op_isWritten_336
  refine z_ok_G (z_bi ht0) ?_
  exact z_ok_s ht0

set_option maxHeartbeats 4000000 in
set_option maxRecDepth 100000 in
theorem t_k_Op_isWritten_337 (q : z_Sg) (hq : iK q) : z_ok (k_Op_isWritten_337 q) (fun o : Int32 => y_in o (0) (1)) := by
  unfold k_Op_isWritten_337
  exact z_ok_s (z_w (show y_in (1 : Int32) (1) (1) from ⟨by decide, by decide⟩) (by decide) (by decide))

set_option maxHeartbeats 4000000 in
set_option maxRecDepth 100000 in
theorem t_k_Op_isWritten_355 (t0 : Int32) (q : z_Sg) (ht0 : y_in t0 (0) (1)) (hq : iK q) : z_ok (k_Op_isWritten_355 t0 q) (fun o : Int32 => y_in o (0) (1)) := by
  unfold k_Op_isWritten_355
  refine z_ok_G (z_bi ht0) ?_
  exact z_ok_s ht0

set_option maxHeartbeats 4000000 in
set_option maxRecDepth 100000 in
theorem t_k_Op_isWritten_33 (t0 : Int32) (q : z_Sg) (ht0 : y_in t0 (0) (1)) (hq : iK q) : z_ok (k_Op_isWritten_33 t0 q) (fun o : Int32 => y_in o (0) (1)) := by
  unfold k_Op_isWritten_33
  refine z_ok_G (z_bi ht0) ?_
  exact z_ok_s ht0

set_option maxHeartbeats 4000000 in
set_option maxRecDepth 100000 in
theorem t_k_Op_isWritten_32 (q : z_Sg) (hq : iK q) : z_ok (k_Op_isWritten_32 q) (fun o : Int32 => y_in o (0) (1)) := by
  unfold k_Op_isWritten_32
  exact t_k_Op_isWritten_33 (0 : Int32) q (z_w (show y_in (0 : Int32) (0) (0) from ⟨by decide, by decide⟩) (by decide) (by decide)) hq

set_option maxHeartbeats 4000000 in
set_option maxRecDepth 100000 in
theorem t_f_Op_isWritten (q : z_Sg) (hq : iK q) : z_ok (f_Op_isWritten q) (fun o : Int32 => y_in o (0) (1)) := by
  unfold f_Op_isWritten
  refine z_ok_n (fun n1 en1 => ?_)
  have hn1 : y_in n1 (0) (511) := z_e en1 (iK_f11 hq)
  refine z_ok_i (fun c62357 => ?_) (fun c62357 => ?_)
  · have z62358 : y_in n1 (64) (511) := z_w (z_le2 c62357 (show y_in (64 : Int32) (64) (64) from ⟨by decide, by decide⟩) hn1) (by decide) (by decide)
    refine z_ok_i (fun c62359 => ?_) (fun c62359 => ?_)
    · have z62360 : y_in (n1 &&& (-16 : Int32)) (400) (400) := z_w (z_eq1 c62359 (show y_in (400 : Int32) (400) (400) from ⟨by decide, by decide⟩)) (by decide) (by decide)
      exact z_ok_s (z_w (show y_in (1 : Int32) (1) (1) from ⟨by decide, by decide⟩) (by decide) (by decide))
    · refine z_ok_i (fun c62361 => ?_) (fun c62361 => ?_)
      · have z62362 : y_in n1 (128) (128) := z_w (z_eq1 c62361 (show y_in (128 : Int32) (128) (128) from ⟨by decide, by decide⟩)) (by decide) (by decide)
        exact t_k_Op_isWritten_272 q hq
      · refine z_ok_i (fun c62363 => ?_) (fun c62363 => ?_)
        · have z62364 : y_in n1 (129) (129) := z_w (z_eq1 c62363 (show y_in (129 : Int32) (129) (129) from ⟨by decide, by decide⟩)) (by decide) (by decide)
          exact t_k_Op_isWritten_272 q hq
        · refine z_ok_i (fun c62365 => ?_) (fun c62365 => ?_)
          · have z62366 : y_in n1 (131) (131) := z_w (z_eq1 c62365 (show y_in (131 : Int32) (131) (131) from ⟨by decide, by decide⟩)) (by decide) (by decide)
            exact t_k_Op_isWritten_272 q hq
          · refine z_ok_i (fun c62367 => ?_) (fun c62367 => ?_)
            · have z62368 : y_in n1 (134) (134) := z_w (z_eq1 c62367 (show y_in (134 : Int32) (134) (134) from ⟨by decide, by decide⟩)) (by decide) (by decide)
              exact t_k_Op_isWritten_290 q hq
            · refine z_ok_i (fun c62369 => ?_) (fun c62369 => ?_)
              · have z62370 : y_in n1 (135) (135) := z_w (z_eq1 c62369 (show y_in (135 : Int32) (135) (135) from ⟨by decide, by decide⟩)) (by decide) (by decide)
                exact t_k_Op_isWritten_290 q hq
              · refine z_ok_i (fun c62371 => ?_) (fun c62371 => ?_)
                · have z62372 : y_in n1 (136) (136) := z_w (z_eq1 c62371 (show y_in (136 : Int32) (136) (136) from ⟨by decide, by decide⟩)) (by decide) (by decide)
                  exact t_k_Op_isWritten_290 q hq
                · refine z_ok_i (fun c62373 => ?_) (fun c62373 => ?_)
                  · have z62374 : y_in n1 (137) (137) := z_w (z_eq1 c62373 (show y_in (137 : Int32) (137) (137) from ⟨by decide, by decide⟩)) (by decide) (by decide)
                    exact t_k_Op_isWritten_290 q hq
                  · refine z_ok_i (fun c62375 => ?_) (fun c62375 => ?_)
                    · have z62376 : y_in n1 (192) (192) := z_w (z_eq1 c62375 (show y_in (192 : Int32) (192) (192) from ⟨by decide, by decide⟩)) (by decide) (by decide)
                      exact t_k_Op_isWritten_290 q hq
                    · refine z_ok_i (fun c62377 => ?_) (fun c62377 => ?_)
                      · have z62378 : y_in n1 (193) (193) := z_w (z_eq1 c62377 (show y_in (193 : Int32) (193) (193) from ⟨by decide, by decide⟩)) (by decide) (by decide)
                        exact t_k_Op_isWritten_290 q hq
                      · refine z_ok_i (fun c62379 => ?_) (fun c62379 => ?_)
                        · have z62380 : y_in n1 (198) (198) := z_w (z_eq1 c62379 (show y_in (198 : Int32) (198) (198) from ⟨by decide, by decide⟩)) (by decide) (by decide)
                          exact t_k_Op_isWritten_290 q hq
                        · refine z_ok_i (fun c62381 => ?_) (fun c62381 => ?_)
                          · have z62382 : y_in n1 (199) (199) := z_w (z_eq1 c62381 (show y_in (199 : Int32) (199) (199) from ⟨by decide, by decide⟩)) (by decide) (by decide)
                            exact t_k_Op_isWritten_290 q hq
                          · refine z_ok_i (fun c62383 => ?_) (fun c62383 => ?_)
                            · have z62384 : y_in n1 (208) (208) := z_w (z_eq1 c62383 (show y_in (208 : Int32) (208) (208) from ⟨by decide, by decide⟩)) (by decide) (by decide)
                              exact t_k_Op_isWritten_290 q hq
                            · refine z_ok_i (fun c62385 => ?_) (fun c62385 => ?_)
                              · have z62386 : y_in n1 (209) (209) := z_w (z_eq1 c62385 (show y_in (209 : Int32) (209) (209) from ⟨by decide, by decide⟩)) (by decide) (by decide)
                                exact t_k_Op_isWritten_290 q hq
                              · refine z_ok_i (fun c62387 => ?_) (fun c62387 => ?_)
                                · have z62388 : y_in n1 (210) (210) := z_w (z_eq1 c62387 (show y_in (210 : Int32) (210) (210) from ⟨by decide, by decide⟩)) (by decide) (by decide)
                                  exact t_k_Op_isWritten_290 q hq
                                · refine z_ok_i (fun c62389 => ?_) (fun c62389 => ?_)
                                  · have z62390 : y_in n1 (211) (211) := z_w (z_eq1 c62389 (show y_in (211 : Int32) (211) (211) from ⟨by decide, by decide⟩)) (by decide) (by decide)
                                    exact t_k_Op_isWritten_290 q hq
                                  · refine z_ok_i (fun c62391 => ?_) (fun c62391 => ?_)
                                    · have z62392 : y_in n1 (246) (246) := z_w (z_eq1 c62391 (show y_in (246 : Int32) (246) (246) from ⟨by decide, by decide⟩)) (by decide) (by decide)
                                      exact t_k_Op_isWritten_292 q hq
                                    · refine z_ok_i (fun c62393 => ?_) (fun c62393 => ?_)
                                      · have z62394 : y_in n1 (247) (247) := z_w (z_eq1 c62393 (show y_in (247 : Int32) (247) (247) from ⟨by decide, by decide⟩)) (by decide) (by decide)
                                        exact t_k_Op_isWritten_292 q hq
                                      · refine z_ok_i (fun c62395 => ?_) (fun c62395 => ?_)
                                        · have z62396 : y_in n1 (254) (254) := z_w (z_eq1 c62395 (show y_in (254 : Int32) (254) (254) from ⟨by decide, by decide⟩)) (by decide) (by decide)
                                          exact t_k_Op_isWritten_290 q hq
                                        · refine z_ok_i (fun c62397 => ?_) (fun c62397 => ?_)
                                          · have z62398 : y_in n1 (255) (255) := z_w (z_eq1 c62397 (show y_in (255 : Int32) (255) (255) from ⟨by decide, by decide⟩)) (by decide) (by decide)
                                            refine z_ok_i (fun c62399 => ?_) (fun c62399 => ?_)
                                            · have z62400 : y_in (z_gI q 13) (2) (7) := z_w (z_le2 c62399 (show y_in (2 : Int32) (2) (2) from ⟨by decide, by decide⟩) (iK_f13 hq)) (by decide) (by decide)
                                              exact t_k_Op_isWritten_336 (0 : Int32) q (z_w (show y_in (0 : Int32) (0) (0) from ⟨by decide, by decide⟩) (by decide) (by decide)) hq
                                            · have z62401 : y_in (z_gI q 13) (0) (1) := z_w (z_nle2 c62399 (show y_in (2 : Int32) (2) (2) from ⟨by decide, by decide⟩) (iK_f13 hq)) (by decide) (by decide)
                                              exact t_k_Op_isWritten_336 (1 : Int32) q (z_w (show y_in (1 : Int32) (1) (1) from ⟨by decide, by decide⟩) (by decide) (by decide)) hq
                                          · refine z_ok_i (fun c62402 => ?_) (fun c62402 => ?_)
                                            · have z62403 : y_in n1 (427) (427) := z_w (z_eq1 c62402 (show y_in (427 : Int32) (427) (427) from ⟨by decide, by decide⟩)) (by decide) (by decide)
                                              exact t_k_Op_isWritten_337 q hq
                                            · refine z_ok_i (fun c62404 => ?_) (fun c62404 => ?_)
                                              · have z62405 : y_in n1 (432) (432) := z_w (z_eq1 c62404 (show y_in (432 : Int32) (432) (432) from ⟨by decide, by decide⟩)) (by decide) (by decide)
                                                exact t_k_Op_isWritten_337 q hq
                                              · refine z_ok_i (fun c62406 => ?_) (fun c62406 => ?_)
                                                · have z62407 : y_in n1 (433) (433) := z_w (z_eq1 c62406 (show y_in (433 : Int32) (433) (433) from ⟨by decide, by decide⟩)) (by decide) (by decide)
                                                  exact t_k_Op_isWritten_337 q hq
                                                · refine z_ok_i (fun c62408 => ?_) (fun c62408 => ?_)
                                                  · have z62409 : y_in n1 (435) (435) := z_w (z_eq1 c62408 (show y_in (435 : Int32) (435) (435) from ⟨by decide, by decide⟩)) (by decide) (by decide)
                                                    exact t_k_Op_isWritten_337 q hq
                                                  · refine z_ok_i (fun c62410 => ?_) (fun c62410 => ?_)
                                                    · have z62411 : y_in n1 (442) (442) := z_w (z_eq1 c62410 (show y_in (442 : Int32) (442) (442) from ⟨by decide, by decide⟩)) (by decide) (by decide)
                                                      refine z_ok_i (fun c62412 => ?_) (fun c62412 => ?_)
                                                      · have z62413 : y_in (z_gI q 13) (4) (4) := z_w (z_eq1 c62412 (show y_in (4 : Int32) (4) (4) from ⟨by decide, by decide⟩)) (by decide) (by decide)
                                                        exact t_k_Op_isWritten_355 (0 : Int32) q (z_w (show y_in (0 : Int32) (0) (0) from ⟨by decide, by decide⟩) (by decide) (by decide)) hq
                                                      · exact t_k_Op_isWritten_355 (1 : Int32) q (z_w (show y_in (1 : Int32) (1) (1) from ⟨by decide, by decide⟩) (by decide) (by decide)) hq
                                                    · refine z_ok_i (fun c62414 => ?_) (fun c62414 => ?_)
                                                      · have z62415 : y_in n1 (443) (443) := z_w (z_eq1 c62414 (show y_in (443 : Int32) (443) (443) from ⟨by decide, by decide⟩)) (by decide) (by decide)
                                                        exact t_k_Op_isWritten_337 q hq
                                                      · refine z_ok_i (fun c62416 => ?_) (fun c62416 => ?_)
                                                        · have z62417 : y_in n1 (448) (448) := z_w (z_eq1 c62416 (show y_in (448 : Int32) (448) (448) from ⟨by decide, by decide⟩)) (by decide) (by decide)
                                                          exact t_k_Op_isWritten_337 q hq
                                                        · refine z_ok_i (fun c62418 => ?_) (fun c62418 => ?_)
                                                          · have z62419 : y_in n1 (449) (449) := z_w (z_eq1 c62418 (show y_in (449 : Int32) (449) (449) from ⟨by decide, by decide⟩)) (by decide) (by decide)
                                                            exact t_k_Op_isWritten_337 q hq
                                                          · exact z_ok_s (z_w (show y_in (0 : Int32) (0) (0) from ⟨by decide, by decide⟩) (by decide) (by decide))
  · have z62420 : y_in n1 (0) (63) := z_w (z_nle2 c62357 (show y_in (64 : Int32) (64) (64) from ⟨by decide, by decide⟩) hn1) (by decide) (by decide)
    refine z_ok_i (fun c62421 => ?_) (fun c62421 => ?_)
    · have z62422 : y_in (n1 &&& (7 : Int32)) (2) (7) := z_w (z_le2 c62421 (show y_in (2 : Int32) (2) (2) from ⟨by decide, by decide⟩) (z_and (show y_in (7 : Int32) (7) (7) from ⟨by decide, by decide⟩) (by decide))) (by decide) (by decide)
      exact t_k_Op_isWritten_32 q hq
    · have z62423 : y_in (n1 &&& (7 : Int32)) (0) (1) := z_w (z_nle2 c62421 (show y_in (2 : Int32) (2) (2) from ⟨by decide, by decide⟩) (z_and (show y_in (7 : Int32) (7) (7) from ⟨by decide, by decide⟩) (by decide))) (by decide) (by decide)
      refine z_ok_i (fun c62424 => ?_) (fun c62424 => ?_)
      · have z62425 : y_in n1 (56) (63) := z_w (z_le2 c62424 (show y_in (56 : Int32) (56) (56) from ⟨by decide, by decide⟩) z62420) (by decide) (by decide)
        exact t_k_Op_isWritten_32 q hq
      · have z62426 : y_in n1 (0) (55) := z_w (z_nle2 c62424 (show y_in (56 : Int32) (56) (56) from ⟨by decide, by decide⟩) z62420) (by decide) (by decide)
        exact t_k_Op_isWritten_33 (1 : Int32) q (z_w (show y_in (1 : Int32) (1) (1) from ⟨by decide, by decide⟩) (by decide) (by decide)) hq

set_option maxHeartbeats 4000000 in
set_option maxRecDepth 100000 in
theorem t_k_Op_open_45 (q : z_Sg) (hq : iK q) : z_ok (k_Op_open_45 q) (fun o : Int32 × z_Sg => iK o.2 ∧ y_in o.1 (-1) (14)) := by
  unfold k_Op_open_45
  exact z_ok_s ⟨hq, (z_w (show y_in (-1 : Int32) (-1) (-1) from ⟨by decide, by decide⟩) (by decide) (by decide))⟩

set_option maxHeartbeats 4000000 in
set_option maxRecDepth 100000 in
theorem t_f_Op_open (q : z_Sg) (hq : iK q) : z_ok (f_Op_open q) (fun o : Int32 × z_Sg => iK o.2 ∧ y_in o.1 (-1) (14)) := by
  unfold f_Op_open
  refine z_ok_b (t_f_Op_bytesOfE q hq) (fun r1 hr1 => ?_)
  refine z_ok_n (fun q2 eq2 => ?_)
  have hq2 : iK q2 := by rw [eq2]; exact (iK_sI15 hq (z_w hr1 (by decide) (by decide)))
  refine z_ok_i (fun c62427 => ?_) (fun c62427 => ?_)
  · have z62428 : y_in (z_gI q2 12) (3) (3) := z_w (z_eq1 c62427 (show y_in (3 : Int32) (3) (3) from ⟨by decide, by decide⟩)) (by decide) (by decide)
    exact t_k_Op_open_45 q2 hq2
  · refine z_ok_i (fun c62429 => ?_) (fun c62429 => ?_)
    · have z62430 : y_in (z_gI q2 11) (141) (141) := z_w (z_eq1 c62429 (show y_in (141 : Int32) (141) (141) from ⟨by decide, by decide⟩)) (by decide) (by decide)
      exact t_k_Op_open_45 q2 hq2
    · refine z_ok_i (fun c62431 => ?_) (fun c62431 => ?_)
      · have z62432 : y_in (z_gI q2 11) (143) (143) := z_w (z_eq1 c62431 (show y_in (143 : Int32) (143) (143) from ⟨by decide, by decide⟩)) (by decide) (by decide)
        exact t_k_Op_open_45 q2 hq2
      · refine z_ok_b (t_f_De_placeOfE (0 : Int64) q2 hq2) (fun r6 hr6 => ?_)
        refine z_ok_b (t_f_Op_bitDistance q2 hq2 (by rw [eq2]; exact hr1)) (fun r7 hr7 => ?_)
        refine z_ok_b (t_f_Op_isWritten q2 hq2) (fun r8 hr8 => ?_)
        refine z_ok_b (t_f_Op_openAt (r6 + r7) r8 q2 hr8 hq2) (fun r9 hr9 => ?_)
        exact z_ok_s ⟨hr9.1, hr9.2⟩

set_option maxHeartbeats 4000000 in
set_option maxRecDepth 100000 in
theorem t_k_Co_step_106 (x1 : Int32) (q : z_Sg) (hx1 : y_in x1 (-1) (15)) (hq : iK q) : z_ok (k_Co_step_106 x1 q) (fun o : Int32 × z_Sg => iK o.2 ∧ y_in o.1 (-1) (15)) := by
  unfold k_Co_step_106
  exact z_ok_s ⟨hq, hx1⟩

set_option maxHeartbeats 4000000 in
set_option maxRecDepth 100000 in
theorem t_k_Co_step_87 (x1 : Int32) (q : z_Sg) (hx1 : y_in x1 (-1) (15)) (hq : iK q) : z_ok (k_Co_step_87 x1 q) (fun o : Int32 × z_Sg => iK o.2 ∧ y_in o.1 (-1) (15)) := by
  unfold k_Co_step_87
  refine z_ok_i (fun c62433 => ?_) (fun c62433 => ?_)
  · have z62434 : y_in x1 (-1) (-1) := z_w (z_eq1 c62433 (show y_in (-1 : Int32) (-1) (-1) from ⟨by decide, by decide⟩)) (by decide) (by decide)
    refine z_ok_n (fun q8 eq8 => ?_)
    have hq8 : iK q8 := by rw [eq8]; exact (iK_sL hq)
    exact t_k_Co_step_106 x1 q8 (z_w z62434 (by decide) (by decide)) hq8
  · have z62435 : y_in x1 (0) (15) := z_w (z_ne1 c62433 hx1 (by decide)) (by decide) (by decide)
    exact t_k_Co_step_106 x1 q (z_w z62435 (by decide) (by decide)) hq

set_option maxHeartbeats 4000000 in
set_option maxRecDepth 100000 in
theorem t_k_Co_step_86 (t0 : Int32) (q : z_Sg) (ht0 : y_in t0 (-1) (0)) (hq : iK q) : z_ok (k_Co_step_86 t0 q) (fun o : Int32 × z_Sg => iK o.2 ∧ y_in o.1 (-1) (15)) := by
  unfold k_Co_step_86
  exact t_k_Co_step_87 t0 q (z_w ht0 (by decide) (by decide)) hq

set_option maxHeartbeats 4000000 in
set_option maxRecDepth 100000 in
theorem t_k_Co_step_50 (x1 : Int32) (q : z_Sg) (hx1 : y_in x1 (-2) (15)) (hq : iK q) : z_ok (k_Co_step_50 x1 q) (fun o : Int32 × z_Sg => iK o.2 ∧ y_in o.1 (-1) (15)) := by
  unfold k_Co_step_50
  refine z_ok_i (fun c62436 => ?_) (fun c62436 => ?_)
  · have z62437 : y_in x1 (-2) (-2) := z_w (z_eq1 c62436 (show y_in (-2 : Int32) (-2) (-2) from ⟨by decide, by decide⟩)) (by decide) (by decide)
    refine z_ok_i (fun c62438 => ?_) (fun c62438 => ?_)
    · have z62439 : y_in (z_gI q 11) (256) (511) := z_w (z_le2 c62438 (show y_in (256 : Int32) (256) (256) from ⟨by decide, by decide⟩) (iK_f11 hq)) (by decide) (by decide)
      refine z_ok_b (t_f_Tw_execute q hq) (fun r10 hr10 => ?_)
      exact t_k_Co_step_86 r10.1 r10.2 (z_w hr10.2 (by decide) (by decide)) hr10.1
    · have z62440 : y_in (z_gI q 11) (0) (255) := z_w (z_nle2 c62438 (show y_in (256 : Int32) (256) (256) from ⟨by decide, by decide⟩) (iK_f11 hq)) (by decide) (by decide)
      refine z_ok_b (t_f_On_execute q hq) (fun r11 hr11 => ?_)
      exact t_k_Co_step_86 r11.1 r11.2 hr11.2 hr11.1
  · have z62441 : y_in x1 (-1) (15) := z_w (z_ne1 c62436 hx1 (by decide)) (by decide) (by decide)
    exact t_k_Co_step_87 x1 q z62441 hq

set_option maxHeartbeats 4000000 in
set_option maxRecDepth 100000 in
theorem t_k_Co_step_21 (x1 : Int32) (q : z_Sg) (hx1 : y_in x1 (-1) (14)) (hq : iK q) : z_ok (k_Co_step_21 x1 q) (fun o : Int32 × z_Sg => iK o.2 ∧ y_in o.1 (-1) (15)) := by
  unfold k_Co_step_21
  refine z_ok_i (fun c62442 => ?_) (fun c62442 => ?_)
  · have z62443 : y_in x1 (-1) (-1) := z_w (z_eq1 c62442 (show y_in (-1 : Int32) (-1) (-1) from ⟨by decide, by decide⟩)) (by decide) (by decide)
    refine z_ok_b (t_f_Fl_execute q hq) (fun r4 hr4 => ?_)
    refine z_ok_i (fun c62444 => ?_) (fun c62444 => ?_)
    · have z62445 : y_in r4.1 (-2) (-2) := z_w (z_eq1 c62444 (show y_in (-2 : Int32) (-2) (-2) from ⟨by decide, by decide⟩)) (by decide) (by decide)
      refine z_ok_b (t_f_Sr_execute r4.2 hr4.1) (fun r12 hr12 => ?_)
      exact t_k_Co_step_50 r12.1 r12.2 (z_w hr12.2 (by decide) (by decide)) hr12.1
    · have z62446 : y_in r4.1 (-1) (15) := z_w (z_ne1 c62444 hr4.2 (by decide)) (by decide) (by decide)
      exact t_k_Co_step_50 r4.1 r4.2 (z_w z62446 (by decide) (by decide)) hr4.1
  · have z62447 : y_in x1 (0) (14) := z_w (z_ne1 c62442 hx1 (by decide)) (by decide) (by decide)
    exact z_ok_s ⟨hq, (z_w z62447 (by decide) (by decide))⟩

set_option maxHeartbeats 4000000 in
set_option maxRecDepth 100000 in
theorem t_f_Co_step (q : z_Sg) (hq : iK q) : z_ok (f_Co_step q) (fun o : Int32 × z_Sg => iK o.2 ∧ y_in o.1 (-1) (15)) := by
  unfold f_Co_step
  refine z_ok_b (t_f_De_decode q hq) (fun r1 hr1 => ?_)
  refine z_ok_i (fun c62448 => ?_) (fun c62448 => ?_)
  · have z62449 : y_in r1.1 (-1) (-1) := z_w (z_eq1 c62448 (show y_in (-1 : Int32) (-1) (-1) from ⟨by decide, by decide⟩)) (by decide) (by decide)
    refine z_ok_b (t_f_Op_open r1.2 hr1.1) (fun r13 hr13 => ?_)
    exact t_k_Co_step_21 r13.1 r13.2 hr13.2 hr13.1
  · have z62450 : y_in r1.1 (0) (14) := z_w (z_ne1 c62448 hr1.2 (by decide)) (by decide) (by decide)
    exact t_k_Co_step_21 r1.1 r1.2 (z_w z62450 (by decide) (by decide)) hr1.1

set_option maxHeartbeats 4000000 in
set_option maxRecDepth 100000 in
theorem t_k_Co_run_11 (q : z_Sg) (hq : iK q) : z_ok (k_Co_run_11 q) (fun o : Int32 × z_Sg => iK o.2 ∧ y_in o.1 (0) (1000)) := by
  unfold k_Co_run_11
  exact z_ok_s ⟨hq, (z_w (show y_in (0 : Int32) (0) (0) from ⟨by decide, by decide⟩) (by decide) (by decide))⟩

set_option maxHeartbeats 4000000 in
set_option maxRecDepth 100000 in
theorem t_kb_Co_run_15 (ih15 : Int32 × Int32 × z_Sg → Option (Int32 × z_Sg)) (x1 : Int32) (x2 : Int32) (q : z_Sg) (hi15 : ∀ (x1' : Int32) (x2' : Int32) (q' : z_Sg), y_in x1' (0) (1000) → y_in x2' (0) (1000) → iK q' → (1000 - x2'.toInt).toNat < (1000 - x2.toInt).toNat → z_ok (ih15 (x1', x2', q')) (fun o : Int32 × z_Sg => iK o.2 ∧ y_in o.1 (0) (1000))) (hx1 : y_in x1 (0) (1000)) (hx2 : y_in x2 (0) (1000)) (hq : iK q) : z_ok (kb_Co_run_15 ih15 x1 x2 q) (fun o : Int32 × z_Sg => iK o.2 ∧ y_in o.1 (0) (1000)) := by
  unfold kb_Co_run_15
  refine z_ok_i (fun c62451 => ?_) (fun c62451 => ?_)
  · exact z_ok_s ⟨hq, hx1⟩
  · have z62452 : y_in x1 (1) (1000) := z_w (z_nle1 c62451 hx1 hx2) (by decide) (by decide)
    have z62453 : y_in x2 (0) (999) := z_w (z_nle2 c62451 hx1 hx2) (by decide) (by decide)
    refine z_ok_b (t_f_Co_step q hq) (fun r4 hr4 => ?_)
    refine z_ok_i (fun c62454 => ?_) (fun c62454 => ?_)
    · have z62455 : y_in r4.1 (-1) (-1) := z_w (z_eq1 c62454 (show y_in (-1 : Int32) (-1) (-1) from ⟨by decide, by decide⟩)) (by decide) (by decide)
      refine z_ok_n (fun n6 en6 => ?_)
      have hn6 : y_in n6 (1) (1000) := z_e en6 (z_w (a' := 1) (b' := 1000) (z_add z62453 (show y_in (1 : Int32) (1) (1) from ⟨by decide, by decide⟩) (by decide) (by decide)) (by decide) (by decide))
      exact hi15 x1 n6 r4.2 (z_w z62452 (by decide) (by decide)) (z_w hn6 (by decide) (by decide)) hr4.1 (z_mu (1000) 1 z62453 en6 (by decide) (by decide) (by decide) (by decide))
    · have z62456 : y_in r4.1 (0) (15) := z_w (z_ne1 c62454 hr4.2 (by decide)) (by decide) (by decide)
      exact z_ok_s ⟨hr4.1, (z_w z62453 (by decide) (by decide))⟩

set_option maxHeartbeats 4000000 in
set_option maxRecDepth 100000 in
theorem t_k_Co_run_15 (x1 : Int32) (x2 : Int32) (q : z_Sg) (hx1 : y_in x1 (0) (1000)) (hx2 : y_in x2 (0) (0)) (hq : iK q) : z_ok (k_Co_run_15 x1 x2 q) (fun o : Int32 × z_Sg => iK o.2 ∧ y_in o.1 (0) (1000)) := by
  unfold k_Co_run_15
  refine z_ok_l (fun a : Int32 × Int32 × z_Sg => y_in a.1 (0) (1000) ∧ y_in a.2.1 (0) (1000) ∧ iK a.2.2) (fun a => (1000 - a.2.1.toInt).toNat) ?_ (x1, x2, q) ⟨hx1, (z_w hx2 (by decide) (by decide)), hq⟩ (by show ((1000 - x2.toInt).toNat) < 2000; have z1 := hx2.1; have z2 := hx2.2; omega)
  intro ih a ha hih
  exact t_kb_Co_run_15 ih a.1 a.2.1 a.2.2 (fun x1' x2' q' hx1' hx2' hq' hm => hih (x1', x2', q') ⟨hx1', hx2', hq'⟩ hm) ha.1 ha.2.1 ha.2.2

set_option maxHeartbeats 4000000 in
set_option maxRecDepth 100000 in
theorem t_f_Co_run (x1 : Int32) (q : z_Sg) (hq : iK q) : z_ok (f_Co_run x1 q) (fun o : Int32 × z_Sg => iK o.2 ∧ y_in o.1 (0) (1000)) := by
  unfold f_Co_run
  refine z_ok_i (fun c62457 => ?_) (fun c62457 => ?_)
  · have z62458 : y_in x1 (-2147483648) (-1) := z_w (z_lt1 c62457 (z_full _) (show y_in (0 : Int32) (0) (0) from ⟨by decide, by decide⟩)) (by decide) (by decide)
    exact t_k_Co_run_11 q hq
  · have z62459 : y_in x1 (0) (2147483647) := z_w (z_nlt1 c62457 (z_full _) (show y_in (0 : Int32) (0) (0) from ⟨by decide, by decide⟩)) (by decide) (by decide)
    refine z_ok_i (fun c62460 => ?_) (fun c62460 => ?_)
    · have z62461 : y_in x1 (0) (1000) := z_w (z_le1 c62460 z62459 (show y_in (1000 : Int32) (1000) (1000) from ⟨by decide, by decide⟩)) (by decide) (by decide)
      exact t_k_Co_run_15 x1 (0 : Int32) q z62461 (show y_in (0 : Int32) (0) (0) from ⟨by decide, by decide⟩) hq
    · have z62462 : y_in x1 (1001) (2147483647) := z_w (z_nle1 c62460 z62459 (show y_in (1000 : Int32) (1000) (1000) from ⟨by decide, by decide⟩)) (by decide) (by decide)
      exact t_k_Co_run_11 q hq

set_option maxHeartbeats 4000000 in
set_option maxRecDepth 100000 in
theorem t_f_Co_look (x1 : Int32) (x2 : Int32) (x3 : Int32) (q : z_Sg) (hq : iK q) : z_ok (f_Co_look x1 x2 x3 q) (fun _ : Int64 => True) := by
  unfold f_Co_look
  refine z_ok_b (t_f_Co_joined x1 x2 q hq) (fun r1 hr1 => ?_)
  refine z_ok_b (t_f_Pa_locate r1 x3 q hq) (fun r2 hr2 => ?_)
  exact z_ok_s trivial
