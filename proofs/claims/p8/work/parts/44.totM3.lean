set_option maxHeartbeats 4000000 in
set_option maxRecDepth 100000 in
theorem t_k_Mo_string_177 (W : Nat) (S : z_SS) (x2 : Int32) (x3 : Int32) (x4 : Int32) (x5 : Int32) (q : z_Sg) (hx2 : y_in x2 (1) (8)) (hx3 : y_in x3 (0) (1)) (hx4 : y_in x4 (0) (1)) (hx5 : y_in x5 (0) (1)) (hq : iM (W + 8) S q) (hW : W + 8 ≤ 16) : z_ok (k_Mo_string_177 x2 x3 x4 x5 q) (fun o : z_Sg => iM (W + 8) S o) := by
  unfold k_Mo_string_177
  refine z_ok_g (z_nbad (z_w (show y_in (5 : Int32) (5) (5) from ⟨by decide, by decide⟩) (by decide) (Int.le_refl _)) (by decide)) ?_
  refine z_ok_i (fun c234731 => ?_) (fun c234731 => ?_)
  · have z234732 : y_in (z_gN q 1 (5 : Int32).toNatClampNeg) (0) (0) := z_w (z_eq1 c234731 (show y_in (0 : Int32) (0) (0) from ⟨by decide, by decide⟩)) (by decide) (by decide)
    exact t_k_Mo_string_194 W S x3 x4 x5 x2.toInt64 q hx3 hx4 hx5 hq hW
  · have z234733 : y_in (z_gN q 1 (5 : Int32).toNatClampNeg) (1) (1) := z_w (z_ne1 c234731 (iM_n1 hq _) (by decide)) (by decide) (by decide)
    exact t_k_Mo_string_194 W S x3 x4 x5 ((-x2)).toInt64 q hx3 hx4 hx5 hq hW

set_option maxHeartbeats 4000000 in
set_option maxRecDepth 100000 in
theorem t_k_Mo_string_107 (W : Nat) (S : z_SS) (x2 : Int32) (x3 : Int32) (x4 : Int32) (x5 : Int32) (t0 : Int64) (q : z_Sg) (hx2 : y_in x2 (1) (8)) (hx3 : y_in x3 (0) (1)) (hx4 : y_in x4 (0) (1)) (hx5 : y_in x5 (0) (1)) (hq : iM W S q) (hW : W + 8 ≤ 16) : z_ok (k_Mo_string_107 x2 x3 x4 x5 t0 q) (fun o : z_Sg => iM (W + 8) S o) := by
  unfold k_Mo_string_107
  refine z_ok_i (fun c234734 => ?_) (fun c234734 => ?_)
  · have z234735 : y_in x4 (0) (0) := z_w (z_eq1 c234734 (show y_in (0 : Int32) (0) (0) from ⟨by decide, by decide⟩)) (by decide) (by decide)
    refine z_ok_i (fun c234736 => ?_) (fun c234736 => ?_)
    · have z234737 : y_in x5 (0) (0) := z_w (z_eq1 c234736 (show y_in (0 : Int32) (0) (0) from ⟨by decide, by decide⟩)) (by decide) (by decide)
      refine z_ok_b (t_f_Mo_put8 W S (0 : Int32) x2 t0 q (z_w (show y_in (0 : Int32) (0) (0) from ⟨by decide, by decide⟩) (by decide) (by decide)) hx2 hq (by omega)) (fun r9 hr9 => ?_)
      exact t_k_Mo_string_177 W S x2 x3 x4 x5 r9 hx2 hx3 (z_w z234735 (by decide) (by decide)) (z_w z234737 (by decide) (by decide)) (iM_w hr9 (by omega)) hW
    · have z234738 : y_in x5 (1) (1) := z_w (z_ne1 c234736 hx5 (by decide)) (by decide) (by decide)
      refine z_ok_g (z_nbad (z_w (show y_in (7 : Int32) (7) (7) from ⟨by decide, by decide⟩) (by decide) (Int.le_refl _)) (by decide)) ?_
      refine z_ok_b (t_f_Mo_lookUp W S (z_gM q 0 (7 : Int32).toNatClampNeg) x2 (1 : Int32) (0 : Int32) q hx2 (z_w (show y_in (1 : Int32) (1) (1) from ⟨by decide, by decide⟩) (by decide) (by decide)) (z_w (show y_in (0 : Int32) (0) (0) from ⟨by decide, by decide⟩) (by decide) (by decide)) hq (by omega)) (fun r33 hr33 => ?_)
      refine z_ok_b (t_f_Mo_hold W S t0 x2 r33 hx2 hr33.1.1 (by omega) hr33.1.2) (fun r34 hr34 => ?_)
      exact t_k_Mo_string_177 W S x2 x3 x4 x5 r34 hx2 hx3 (z_w z234735 (by decide) (by decide)) (z_w z234738 (by decide) (by decide)) hr34 hW
  · have z234739 : y_in x4 (1) (1) := z_w (z_ne1 c234734 hx4 (by decide)) (by decide) (by decide)
    refine z_ok_g (z_nbad (z_w (show y_in (7 : Int32) (7) (7) from ⟨by decide, by decide⟩) (by decide) (Int.le_refl _)) (by decide)) ?_
    refine z_ok_b (t_f_Mo_load W S (z_gM q 0 (7 : Int32).toNatClampNeg) x2 (0 : Int32) q hx2 (z_w (show y_in (0 : Int32) (0) (0) from ⟨by decide, by decide⟩) (by decide) (by decide)) hq (by omega)) (fun r36 hr36 => ?_)
    refine z_ok_b (t_f_Mo_add W S t0 r36.1 (0 : Int32) (1 : Int32) x2 r36.2 (z_w (show y_in (0 : Int32) (0) (0) from ⟨by decide, by decide⟩) (by decide) (by decide)) (z_w (show y_in (1 : Int32) (1) (1) from ⟨by decide, by decide⟩) (by decide) (by decide)) hx2 hr36 (by omega)) (fun r37 hr37 => ?_)
    exact t_k_Mo_string_177 W S x2 x3 x4 x5 r37.2 hx2 hx3 (z_w z234739 (by decide) (by decide)) hx5 (iM_w hr37 (by omega)) hW

set_option maxHeartbeats 4000000 in
set_option maxRecDepth 100000 in
theorem t_k_Mo_string_79 (W : Nat) (S : z_SS) (x2 : Int32) (x3 : Int32) (x4 : Int32) (t0 : Int32) (q : z_Sg) (hx2 : y_in x2 (1) (8)) (hx3 : y_in x3 (0) (1)) (hx4 : y_in x4 (0) (1)) (ht0 : y_in t0 (0) (1)) (hq : iM W S q) (hW : W + 8 ≤ 16) : z_ok (k_Mo_string_79 x2 x3 x4 t0 q) (fun o : z_Sg => iM (W + 8) S o) := by
  unfold k_Mo_string_79
  refine z_ok_i (fun c234740 => ?_) (fun c234740 => ?_)
  · have z234741 : y_in x3 (0) (0) := z_w (z_eq1 c234740 (show y_in (0 : Int32) (0) (0) from ⟨by decide, by decide⟩)) (by decide) (by decide)
    refine z_ok_b (t_f_Mo_get8 W S (0 : Int32) x2 q (z_w (show y_in (0 : Int32) (0) (0) from ⟨by decide, by decide⟩) (by decide) (by decide)) hx2 hq (by omega)) (fun r6 hr6 => ?_)
    exact t_k_Mo_string_107 W S x2 x3 x4 t0 r6 q hx2 (z_w z234741 (by decide) (by decide)) hx4 ht0 hq hW
  · have z234742 : y_in x3 (1) (1) := z_w (z_ne1 c234740 hx3 (by decide)) (by decide) (by decide)
    refine z_ok_g (z_nbad (z_w (show y_in (6 : Int32) (6) (6) from ⟨by decide, by decide⟩) (by decide) (Int.le_refl _)) (by decide)) ?_
    refine z_ok_b (t_f_Mo_load W S (z_gM q 0 (6 : Int32).toNatClampNeg) x2 (0 : Int32) q hx2 (z_w (show y_in (0 : Int32) (0) (0) from ⟨by decide, by decide⟩) (by decide) (by decide)) hq (by omega)) (fun r39 hr39 => ?_)
    exact t_k_Mo_string_107 W S x2 x3 x4 t0 r39.1 r39.2 hx2 (z_w z234742 (by decide) (by decide)) hx4 ht0 hr39 hW

set_option maxHeartbeats 4000000 in
set_option maxRecDepth 100000 in
theorem t_k_Mo_string_65 (W : Nat) (S : z_SS) (x1 : Int32) (x2 : Int32) (x3 : Int32) (t0 : Int32) (q : z_Sg) (hx1 : y_in x1 (0) (175)) (hx2 : y_in x2 (1) (8)) (hx3 : y_in x3 (0) (1)) (ht0 : y_in t0 (0) (1)) (hq : iM W S q) (hW : W + 8 ≤ 16) : z_ok (k_Mo_string_65 x1 x2 x3 t0 q) (fun o : z_Sg => iM (W + 8) S o) := by
  unfold k_Mo_string_65
  refine z_ok_i (fun c234743 => ?_) (fun c234743 => ?_)
  · have z234744 : y_in x1 (172) (172) := z_w (z_eq1 c234743 (show y_in (172 : Int32) (172) (172) from ⟨by decide, by decide⟩)) (by decide) (by decide)
    exact t_k_Mo_string_79 W S x2 x3 t0 (0 : Int32) q hx2 hx3 ht0 (z_w (show y_in (0 : Int32) (0) (0) from ⟨by decide, by decide⟩) (by decide) (by decide)) hq hW
  · exact t_k_Mo_string_79 W S x2 x3 t0 (1 : Int32) q hx2 hx3 ht0 (z_w (show y_in (1 : Int32) (1) (1) from ⟨by decide, by decide⟩) (by decide) (by decide)) hq hW

set_option maxHeartbeats 4000000 in
set_option maxRecDepth 100000 in
theorem t_k_Mo_string_60 (W : Nat) (S : z_SS) (x1 : Int32) (x2 : Int32) (x3 : Int32) (q : z_Sg) (hx1 : y_in x1 (166) (174)) (hx2 : y_in x2 (1) (8)) (hx3 : y_in x3 (0) (1)) (hq : iM W S q) (hW : W + 8 ≤ 16) : z_ok (k_Mo_string_60 x1 x2 x3 q) (fun o : z_Sg => iM (W + 8) S o) := by
  unfold k_Mo_string_60
  exact t_k_Mo_string_65 W S x1 x2 x3 (1 : Int32) q (z_w hx1 (by decide) (by decide)) hx2 hx3 (z_w (show y_in (1 : Int32) (1) (1) from ⟨by decide, by decide⟩) (by decide) (by decide)) hq hW

set_option maxHeartbeats 4000000 in
set_option maxRecDepth 100000 in
theorem t_k_Mo_string_45 (W : Nat) (S : z_SS) (x1 : Int32) (x2 : Int32) (t0 : Int32) (q : z_Sg) (hx1 : y_in x1 (0) (175)) (hx2 : y_in x2 (1) (8)) (ht0 : y_in t0 (0) (1)) (hq : iM W S q) (hW : W + 8 ≤ 16) : z_ok (k_Mo_string_45 x1 x2 t0 q) (fun o : z_Sg => iM (W + 8) S o) := by
  unfold k_Mo_string_45
  refine z_ok_i (fun c234745 => ?_) (fun c234745 => ?_)
  · have z234746 : y_in x1 (166) (166) := z_w (z_eq1 c234745 (show y_in (166 : Int32) (166) (166) from ⟨by decide, by decide⟩)) (by decide) (by decide)
    exact t_k_Mo_string_60 W S x1 x2 t0 q (z_w z234746 (by decide) (by decide)) hx2 ht0 hq hW
  · refine z_ok_i (fun c234747 => ?_) (fun c234747 => ?_)
    · have z234748 : y_in x1 (174) (174) := z_w (z_eq1 c234747 (show y_in (174 : Int32) (174) (174) from ⟨by decide, by decide⟩)) (by decide) (by decide)
      exact t_k_Mo_string_60 W S x1 x2 t0 q (z_w z234748 (by decide) (by decide)) hx2 ht0 hq hW
    · exact t_k_Mo_string_65 W S x1 x2 t0 (0 : Int32) q hx1 hx2 ht0 (z_w (show y_in (0 : Int32) (0) (0) from ⟨by decide, by decide⟩) (by decide) (by decide)) hq hW

set_option maxHeartbeats 4000000 in
set_option maxRecDepth 100000 in
theorem t_k_Mo_string_40 (W : Nat) (S : z_SS) (x1 : Int32) (x2 : Int32) (q : z_Sg) (hx1 : y_in x1 (164) (172)) (hx2 : y_in x2 (1) (8)) (hq : iM W S q) (hW : W + 8 ≤ 16) : z_ok (k_Mo_string_40 x1 x2 q) (fun o : z_Sg => iM (W + 8) S o) := by
  unfold k_Mo_string_40
  exact t_k_Mo_string_45 W S x1 x2 (1 : Int32) q (z_w hx1 (by decide) (by decide)) hx2 (z_w (show y_in (1 : Int32) (1) (1) from ⟨by decide, by decide⟩) (by decide) (by decide)) hq hW

set_option maxHeartbeats 4000000 in
set_option maxRecDepth 100000 in
theorem t_k_Mo_string_19 (W : Nat) (S : z_SS) (x1 : Int32) (x2 : Int32) (q : z_Sg) (hx1 : y_in x1 (0) (175)) (hx2 : y_in x2 (1) (8)) (hq : iM W S q) (hW : W + 8 ≤ 16) : z_ok (k_Mo_string_19 x1 x2 q) (fun o : z_Sg => iM (W + 8) S o) := by
  unfold k_Mo_string_19
  refine z_ok_i (fun c234749 => ?_) (fun c234749 => ?_)
  · have z234750 : y_in x1 (164) (164) := z_w (z_eq1 c234749 (show y_in (164 : Int32) (164) (164) from ⟨by decide, by decide⟩)) (by decide) (by decide)
    exact t_k_Mo_string_40 W S x1 x2 q (z_w z234750 (by decide) (by decide)) hx2 hq hW
  · refine z_ok_i (fun c234751 => ?_) (fun c234751 => ?_)
    · have z234752 : y_in x1 (166) (166) := z_w (z_eq1 c234751 (show y_in (166 : Int32) (166) (166) from ⟨by decide, by decide⟩)) (by decide) (by decide)
      exact t_k_Mo_string_40 W S x1 x2 q (z_w z234752 (by decide) (by decide)) hx2 hq hW
    · refine z_ok_i (fun c234753 => ?_) (fun c234753 => ?_)
      · have z234754 : y_in x1 (172) (172) := z_w (z_eq1 c234753 (show y_in (172 : Int32) (172) (172) from ⟨by decide, by decide⟩)) (by decide) (by decide)
        exact t_k_Mo_string_40 W S x1 x2 q (z_w z234754 (by decide) (by decide)) hx2 hq hW
      · exact t_k_Mo_string_45 W S x1 x2 (0 : Int32) q hx1 hx2 (z_w (show y_in (0 : Int32) (0) (0) from ⟨by decide, by decide⟩) (by decide) (by decide)) hq hW

set_option maxHeartbeats 4000000 in
set_option maxRecDepth 100000 in
theorem t_f_Mo_string (W : Nat) (S : z_SS) (x1 : Int32) (x2 : Int32) (q : z_Sg) (hx1 : y_in x1 (0) (175)) (hx2 : y_in x2 (1) (8)) (hq : iM W S q) (hW : W + 8 ≤ 16) : z_ok (f_Mo_string x1 x2 q) (fun o : z_Sg => iM (W + 8) S o) := by
  unfold f_Mo_string
  refine z_ok_i (fun c234755 => ?_) (fun c234755 => ?_)
  · have z234756 : y_in (z_gI q 11) (0) (0) := z_w (z_eq1 c234755 (show y_in (0 : Int32) (0) (0) from ⟨by decide, by decide⟩)) (by decide) (by decide)
    exact t_k_Mo_string_19 W S x1 x2 q hx1 hx2 hq hW
  · have z234757 : y_in (z_gI q 11) (1) (243) := z_w (z_ne1 c234755 (iM_f11 hq) (by decide)) (by decide) (by decide)
    refine z_ok_g (z_nbad (z_w (show y_in (1 : Int32) (1) (1) from ⟨by decide, by decide⟩) (by decide) (Int.le_refl _)) (by decide)) ?_
    refine z_ok_i (fun c234758 => ?_) (fun c234758 => ?_)
    · exact z_ok_s (iM_w hq (by omega))
    · exact t_k_Mo_string_19 W S x1 x2 q hx1 hx2 hq hW

set_option maxHeartbeats 4000000 in
set_option maxRecDepth 100000 in
theorem t_k_Mo_turn_120 (W : Nat) (S : z_SS) (q : z_Sg) (hq : iM W S q) (hW : W + 0 ≤ 16) : z_ok (k_Mo_turn_120 q) (fun o : z_Sg => iM W S o) := by
  unfold k_Mo_turn_120
  exact z_ok_s hq

set_option maxHeartbeats 4000000 in
set_option maxRecDepth 100000 in
theorem t_k_Mo_turn_74 (W : Nat) (S : z_SS) (t1 : Int32) (t2 : Int32) (t3 : Int64) (q : z_Sg) (ht1 : y_in t1 (2) (2)) (ht2 : y_in t2 (2) (8)) (ht3 : y_il t3 (-1) (0)) (hq : iM W S q) (hW : W + 0 ≤ 16) : z_ok (k_Mo_turn_74 t1 t2 t3 q) (fun o : z_Sg => iM W S o) := by
  unfold k_Mo_turn_74
  refine z_ok_b (t_f_Mo_put8 W S t1 t2 t3 q (z_w ht1 (by decide) (by decide)) (z_w ht2 (by decide) (by decide)) hq (by omega)) (fun r16 hr16 => ?_)
  exact t_k_Mo_turn_120 W S r16 hr16 hW

set_option maxHeartbeats 4000000 in
set_option maxRecDepth 100000 in
theorem t_f_Mo_turn (W : Nat) (S : z_SS) (x1 : Int32) (q : z_Sg) (hx1 : y_in x1 (144) (153)) (hq : iM W S q) (hW : W + 0 ≤ 16) : z_ok (f_Mo_turn x1 q) (fun o : z_Sg => iM W S o) := by
  unfold f_Mo_turn
  refine z_ok_b (t_f_Mo_wide W S q hq (by omega)) (fun r1 hr1 => ?_)
  refine z_ok_b (t_f_Mo_plus W S (1 : Int32) q (z_w (show y_in (1 : Int32) (1) (1) from ⟨by decide, by decide⟩) (by decide) (by decide)) hq (by omega)) (fun r2 hr2 => ?_)
  refine z_ok_n (fun n3 en3 => ?_)
  have hn3 : y_in n3 (0) (15) := z_e en3 (z_w (a' := 0) (b' := 15) (z_add (z_w (a' := 0) (b' := 7) (z_mod 8 hx1 (by decide) rfl (by decide) (by decide)) (by decide) (by decide)) hr2 (by decide) (by decide)) (by decide) (by decide))
  refine z_ok_i (fun c234759 => ?_) (fun c234759 => ?_)
  · have z234760 : y_in x1 (152) (152) := z_w (z_eq1 c234759 (show y_in (152 : Int32) (152) (152) from ⟨by decide, by decide⟩)) (by decide) (by decide)
    refine z_ok_g (z_nbad (show y_in (0 : Int32) (0) (0) from ⟨by decide, by decide⟩) (by decide)) ?_
    refine z_ok_b (t_f_Mo_extended W S (z_gM q 0 (0 : Int32).toNatClampNeg) (r1 / (2 : Int32)) q (z_w (z_w (a' := 0) (b' := 4) (z_div 2 hr1 (by decide) rfl (by decide) (by decide)) (by decide) (by decide)) (by decide) (by decide)) hq (by omega)) (fun r18 hr18 => ?_)
    refine z_ok_b (t_f_Mo_put8 W S (0 : Int32) r1 r18 q (z_w (show y_in (0 : Int32) (0) (0) from ⟨by decide, by decide⟩) (by decide) (by decide)) (z_w hr1 (by decide) (by decide)) hq (by omega)) (fun r19 hr19 => ?_)
    exact t_k_Mo_turn_120 W S r19 hr19 hW
  · refine z_ok_i (fun c234761 => ?_) (fun c234761 => ?_)
    · have z234762 : y_in x1 (153) (153) := z_w (z_eq1 c234761 (show y_in (153 : Int32) (153) (153) from ⟨by decide, by decide⟩)) (by decide) (by decide)
      refine z_ok_g (z_nbad (show y_in (0 : Int32) (0) (0) from ⟨by decide, by decide⟩) (by decide)) ?_
      refine z_ok_b (t_f_Mo_top W S (z_gM q 0 (0 : Int32).toNatClampNeg) r1 q (z_w hr1 (by decide) (by decide)) hq (by omega)) (fun r14 hr14 => ?_)
      refine z_ok_i (fun c234763 => ?_) (fun c234763 => ?_)
      · have z234764 : y_in r14 (0) (0) := z_w (z_eq1 c234763 (show y_in (0 : Int32) (0) (0) from ⟨by decide, by decide⟩)) (by decide) (by decide)
        exact t_k_Mo_turn_74 W S (2 : Int32) r1 (0 : Int64) q (show y_in (2 : Int32) (2) (2) from ⟨by decide, by decide⟩) hr1 (z_lw (show y_il (0 : Int64) (0) (0) from ⟨by decide, by decide⟩) (by decide) (by decide)) hq hW
      · have z234765 : y_in r14 (1) (1) := z_w (z_ne1 c234763 hr14 (by decide)) (by decide) (by decide)
        exact t_k_Mo_turn_74 W S (2 : Int32) r1 (-1 : Int64) q (show y_in (2 : Int32) (2) (2) from ⟨by decide, by decide⟩) hr1 (z_lw (show y_il (-1 : Int64) (-1) (-1) from ⟨by decide, by decide⟩) (by decide) (by decide)) hq hW
    · have z234766 : y_in x1 (144) (152) := z_w (z_ne2 c234761 hx1 (by decide)) (by decide) (by decide)
      refine z_ok_i (fun c234767 => ?_) (fun c234767 => ?_)
      · have z234768 : y_in n3 (0) (0) := z_w (z_eq1 c234767 (show y_in (0 : Int32) (0) (0) from ⟨by decide, by decide⟩)) (by decide) (by decide)
        exact t_k_Mo_turn_120 W S q hq hW
      · have z234769 : y_in n3 (1) (15) := z_w (z_ne1 c234767 hn3 (by decide)) (by decide) (by decide)
        refine z_ok_g (z_nbad (show y_in (0 : Int32) (0) (0) from ⟨by decide, by decide⟩) (by decide)) ?_
        refine z_ok_b (t_f_Mo_lowest W S (z_gM q 0 (0 : Int32).toNatClampNeg) r1 q (z_w hr1 (by decide) (by decide)) hq (by omega)) (fun r8 hr8 => ?_)
        refine z_ok_g (z_nbad (z_w z234769 (by decide) (Int.le_refl _)) (by decide)) ?_
        refine z_ok_b (t_f_Mo_lowest W S (z_gM q 0 n3.toNatClampNeg) r1 q (z_w hr1 (by decide) (by decide)) hq (by omega)) (fun r10 hr10 => ?_)
        refine z_ok_b (t_f_Mo_put8 W S (0 : Int32) r1 r10 q (z_w (show y_in (0 : Int32) (0) (0) from ⟨by decide, by decide⟩) (by decide) (by decide)) (z_w hr1 (by decide) (by decide)) hq (by omega)) (fun r11 hr11 => ?_)
        refine z_ok_b (t_f_Mo_put8 W S n3 r1 r8 r11 (z_w z234769 (by decide) (by decide)) (z_w hr1 (by decide) (by decide)) hr11 (by omega)) (fun r12 hr12 => ?_)
        exact t_k_Mo_turn_120 W S r12 hr12 hW

set_option maxHeartbeats 4000000 in
set_option maxRecDepth 100000 in
theorem t_k_Mo_move_99 (W : Nat) (S : z_SS) (q : z_Sg) (hq : iM (W + 8) z_Z q) (hW : W + 8 ≤ 16) : z_ok (k_Mo_move_99 q) (fun o : z_Sg => iM (W + 8) z_Z o) := by
  unfold k_Mo_move_99
  exact z_ok_s hq

set_option maxHeartbeats 4000000 in
set_option maxRecDepth 100000 in
theorem t_f_Mo_move (W : Nat) (S : z_SS) (x1 : Int32) (x2 : Int32) (q : z_Sg) (hx1 : y_in x1 (132) (139)) (hx2 : y_in x2 (1) (8)) (hq : iM W S q) (hW : W + 8 ≤ 16) : z_ok (f_Mo_move x1 x2 q) (fun o : z_Sg => iM (W + 8) z_Z o) := by
  unfold f_Mo_move
  refine z_ok_b (t_f_Mo_takeOperand W S q hq (by omega)) (fun r1 hr1 => ?_)
  refine z_ok_b (t_f_Mo_g W z_Z x2 r1 hx2 hr1 (by omega)) (fun r2 hr2 => ?_)
  refine z_ok_i (fun c234770 => ?_) (fun c234770 => ?_)
  · have z234771 : y_in x1 (134) (139) := z_w (z_le2 c234770 (show y_in (134 : Int32) (134) (134) from ⟨by decide, by decide⟩) hx1) (by decide) (by decide)
    refine z_ok_i (fun c234772 => ?_) (fun c234772 => ?_)
    · have z234773 : y_in x1 (136) (139) := z_w (z_le2 c234772 (show y_in (136 : Int32) (136) (136) from ⟨by decide, by decide⟩) z234771) (by decide) (by decide)
      refine z_ok_i (fun c234774 => ?_) (fun c234774 => ?_)
      · have z234775 : y_in x1 (138) (139) := z_w (z_le2 c234774 (show y_in (138 : Int32) (138) (138) from ⟨by decide, by decide⟩) z234773) (by decide) (by decide)
        refine z_ok_b (t_f_Mo_e W z_Z x2 (0 : Int32) r1 hx2 (z_w (show y_in (0 : Int32) (0) (0) from ⟨by decide, by decide⟩) (by decide) (by decide)) hr1 (by omega)) (fun r6 hr6 => ?_)
        refine z_ok_b (t_f_Mo_setG W (x2, true, fun _ _ _ => True) x2 r6.1 r6.2 hx2 hr6 (by omega)) (fun r7 hr7 => ?_)
        exact t_k_Mo_move_99 W S r7 (iM_w (iM_0 hr7) (by omega)) hW
      · have z234776 : y_in x1 (136) (137) := z_w (z_nle2 c234774 (show y_in (138 : Int32) (138) (138) from ⟨by decide, by decide⟩) z234773) (by decide) (by decide)
        refine z_ok_b (t_f_Mo_e W z_Z x2 (1 : Int32) r1 hx2 (z_w (show y_in (1 : Int32) (1) (1) from ⟨by decide, by decide⟩) (by decide) (by decide)) hr1 (by omega)) (fun r8 hr8 => ?_)
        refine z_ok_b (t_f_Mo_setE W (x2, true, fun _ _ _ => True) x2 r2 r8.2 hx2 hr8 (by omega)) (fun r9 hr9 => ?_)
        exact t_k_Mo_move_99 W S r9 (iM_0 hr9) hW
    · have z234777 : y_in x1 (134) (135) := z_w (z_nle2 c234772 (show y_in (136 : Int32) (136) (136) from ⟨by decide, by decide⟩) z234771) (by decide) (by decide)
      refine z_ok_b (t_f_Mo_e W z_Z x2 (1 : Int32) r1 hx2 (z_w (show y_in (1 : Int32) (1) (1) from ⟨by decide, by decide⟩) (by decide) (by decide)) hr1 (by omega)) (fun r10 hr10 => ?_)
      refine z_ok_b (t_f_Mo_setE W (x2, true, fun _ _ _ => True) x2 r2 r10.2 hx2 hr10 (by omega)) (fun r11 hr11 => ?_)
      refine z_ok_b (t_f_Mo_setG (W + 8) (x2, true, fun _ _ _ => True) x2 r10.1 r11 hx2 hr11 (by omega)) (fun r12 hr12 => ?_)
      exact t_k_Mo_move_99 W S r12 (iM_0 hr12) hW
  · have z234778 : y_in x1 (132) (133) := z_w (z_nle2 c234770 (show y_in (134 : Int32) (134) (134) from ⟨by decide, by decide⟩) hx1) (by decide) (by decide)
    refine z_ok_b (t_f_Mo_e W z_Z x2 (0 : Int32) r1 hx2 (z_w (show y_in (0 : Int32) (0) (0) from ⟨by decide, by decide⟩) (by decide) (by decide)) hr1 (by omega)) (fun r13 hr13 => ?_)
    refine z_ok_b (t_f_Mo_logic W (x2, true, fun _ _ _ => True) (r13.1 &&& r2) x2 r13.2 hx2 hr13 (by omega)) (fun r14 hr14 => ?_)
    exact t_k_Mo_move_99 W S r14.2 (iM_w (iM_0 hr14) (by omega)) hW

set_option maxHeartbeats 4000000 in
set_option maxRecDepth 100000 in
theorem t_k_Mo_holds_181 (W : Nat) (S : z_SS) (t0 : Int32) (q : z_Sg) (ht0 : y_in t0 (0) (1)) (hq : iM W S q) (hW : W + 0 ≤ 16) : z_ok (k_Mo_holds_181 t0 q) (fun o : Int32 => y_in o (0) (1)) := by
  unfold k_Mo_holds_181
  refine z_ok_G (z_bi ht0) ?_
  exact z_ok_s ht0

set_option maxHeartbeats 4000000 in
set_option maxRecDepth 100000 in
theorem t_k_Mo_holds_158 (W : Nat) (S : z_SS) (x1 : Int32) (t0 : Int32) (q : z_Sg) (hx1 : y_in x1 (64) (255)) (ht0 : y_in t0 (0) (1)) (hq : iM W S q) (hW : W + 0 ≤ 16) : z_ok (k_Mo_holds_158 x1 t0 q) (fun o : Int32 => y_in o (0) (1)) := by
  unfold k_Mo_holds_158
  refine z_ok_i (fun c234779 => ?_) (fun c234779 => ?_)
  · have z234780 : y_in (x1 - ((x1 / (2 : Int32)) * (2 : Int32))) (0) (0) := z_w (z_eq1 c234779 (show y_in (0 : Int32) (0) (0) from ⟨by decide, by decide⟩)) (by decide) (by decide)
    exact t_k_Mo_holds_181 W S t0 q ht0 hq hW
  · have z234781 : y_in (x1 - ((x1 / (2 : Int32)) * (2 : Int32))) (1) (1) := z_w (z_ne1 c234779 (z_w (a' := 0) (b' := 1) (z_mod 2 hx1 (by decide) rfl (by decide) (by decide)) (by decide) (by decide)) (by decide)) (by decide) (by decide)
    refine z_ok_i (fun c234782 => ?_) (fun c234782 => ?_)
    · have z234783 : y_in t0 (0) (0) := z_w (z_eq1 c234782 (show y_in (0 : Int32) (0) (0) from ⟨by decide, by decide⟩)) (by decide) (by decide)
      exact t_k_Mo_holds_181 W S (1 : Int32) q (z_w (show y_in (1 : Int32) (1) (1) from ⟨by decide, by decide⟩) (by decide) (by decide)) hq hW
    · have z234784 : y_in t0 (1) (1) := z_w (z_ne1 c234782 ht0 (by decide)) (by decide) (by decide)
      exact t_k_Mo_holds_181 W S (0 : Int32) q (z_w (show y_in (0 : Int32) (0) (0) from ⟨by decide, by decide⟩) (by decide) (by decide)) hq hW

set_option maxHeartbeats 4000000 in
set_option maxRecDepth 100000 in
theorem t_k_Mo_holds_153 (W : Nat) (S : z_SS) (x1 : Int32) (q : z_Sg) (hx1 : y_in x1 (64) (255)) (hq : iM W S q) (hW : W + 0 ≤ 16) : z_ok (k_Mo_holds_153 x1 q) (fun o : Int32 => y_in o (0) (1)) := by
  unfold k_Mo_holds_153
  exact t_k_Mo_holds_158 W S x1 (1 : Int32) q hx1 (z_w (show y_in (1 : Int32) (1) (1) from ⟨by decide, by decide⟩) (by decide) (by decide)) hq hW

set_option maxHeartbeats 4000000 in
set_option maxRecDepth 100000 in
theorem t_k_Mo_holds_94 (W : Nat) (S : z_SS) (x1 : Int32) (q : z_Sg) (hx1 : y_in x1 (64) (255)) (hq : iM W S q) (hW : W + 0 ≤ 16) : z_ok (k_Mo_holds_94 x1 q) (fun o : Int32 => y_in o (0) (1)) := by
  unfold k_Mo_holds_94
  exact t_k_Mo_holds_158 W S x1 (1 : Int32) q hx1 (z_w (show y_in (1 : Int32) (1) (1) from ⟨by decide, by decide⟩) (by decide) (by decide)) hq hW

set_option maxHeartbeats 4000000 in
set_option maxRecDepth 100000 in
theorem t_k_Mo_holds_21 (W : Nat) (S : z_SS) (x1 : Int32) (t0 : Int32) (q : z_Sg) (hx1 : y_in x1 (64) (255)) (ht0 : y_in t0 (0) (1)) (hq : iM W S q) (hW : W + 0 ≤ 16) : z_ok (k_Mo_holds_21 x1 t0 q) (fun o : Int32 => y_in o (0) (1)) := by
  unfold k_Mo_holds_21
  refine z_ok_n (fun n4 en4 => ?_)
  have hn4 : y_in n4 (0) (7) := z_e en4 (z_w (a' := 0) (b' := 7) (z_mod 8 (z_w (a' := 0) (b' := 127) (z_div 2 hx1 (by decide) rfl (by decide) (by decide)) (by decide) (by decide)) (by decide) rfl (by decide) (by decide)) (by decide) (by decide))
  refine z_ok_i (fun c234785 => ?_) (fun c234785 => ?_)
  · have z234786 : y_in n4 (0) (0) := z_w (z_eq1 c234785 (show y_in (0 : Int32) (0) (0) from ⟨by decide, by decide⟩)) (by decide) (by decide)
    refine z_ok_g (z_nbad (z_w (show y_in (6 : Int32) (6) (6) from ⟨by decide, by decide⟩) (by decide) (Int.le_refl _)) (by decide)) ?_
    exact t_k_Mo_holds_158 W S x1 (z_gN q 1 (6 : Int32).toNatClampNeg) q hx1 (iM_n1 hq _) hq hW
  · have z234787 : y_in n4 (1) (7) := z_w (z_ne1 c234785 hn4 (by decide)) (by decide) (by decide)
    refine z_ok_i (fun c234788 => ?_) (fun c234788 => ?_)
    · have z234789 : y_in n4 (1) (1) := z_w (z_eq1 c234788 (show y_in (1 : Int32) (1) (1) from ⟨by decide, by decide⟩)) (by decide) (by decide)
      refine z_ok_g (z_nbad (show y_in (0 : Int32) (0) (0) from ⟨by decide, by decide⟩) (by decide)) ?_
      exact t_k_Mo_holds_158 W S x1 (z_gN q 1 (0 : Int32).toNatClampNeg) q hx1 (iM_n1 hq _) hq hW
    · have z234790 : y_in n4 (2) (7) := z_w (z_ne1 c234788 z234787 (by decide)) (by decide) (by decide)
      refine z_ok_i (fun c234791 => ?_) (fun c234791 => ?_)
      · have z234792 : y_in n4 (2) (2) := z_w (z_eq1 c234791 (show y_in (2 : Int32) (2) (2) from ⟨by decide, by decide⟩)) (by decide) (by decide)
        refine z_ok_g (z_nbad (z_w (show y_in (3 : Int32) (3) (3) from ⟨by decide, by decide⟩) (by decide) (Int.le_refl _)) (by decide)) ?_
        exact t_k_Mo_holds_158 W S x1 (z_gN q 1 (3 : Int32).toNatClampNeg) q hx1 (iM_n1 hq _) hq hW
      · have z234793 : y_in n4 (3) (7) := z_w (z_ne1 c234791 z234790 (by decide)) (by decide) (by decide)
        refine z_ok_i (fun c234794 => ?_) (fun c234794 => ?_)
        · have z234795 : y_in n4 (3) (3) := z_w (z_eq1 c234794 (show y_in (3 : Int32) (3) (3) from ⟨by decide, by decide⟩)) (by decide) (by decide)
          refine z_ok_g (z_nbad (show y_in (0 : Int32) (0) (0) from ⟨by decide, by decide⟩) (by decide)) ?_
          refine z_ok_i (fun c234796 => ?_) (fun c234796 => ?_)
          · have z234797 : y_in (z_gN q 1 (0 : Int32).toNatClampNeg) (0) (0) := z_w (z_eq1 c234796 (show y_in (0 : Int32) (0) (0) from ⟨by decide, by decide⟩)) (by decide) (by decide)
            refine z_ok_g (z_nbad (z_w (show y_in (3 : Int32) (3) (3) from ⟨by decide, by decide⟩) (by decide) (Int.le_refl _)) (by decide)) ?_
            refine z_ok_i (fun c234798 => ?_) (fun c234798 => ?_)
            · have z234799 : y_in (z_gN q 1 (3 : Int32).toNatClampNeg) (0) (0) := z_w (z_eq1 c234798 (show y_in (0 : Int32) (0) (0) from ⟨by decide, by decide⟩)) (by decide) (by decide)
              exact t_k_Mo_holds_158 W S x1 (0 : Int32) q hx1 (z_w (show y_in (0 : Int32) (0) (0) from ⟨by decide, by decide⟩) (by decide) (by decide)) hq hW
            · have z234800 : y_in (z_gN q 1 (3 : Int32).toNatClampNeg) (1) (1) := z_w (z_ne1 c234798 (iM_n1 hq _) (by decide)) (by decide) (by decide)
              exact t_k_Mo_holds_94 W S x1 q hx1 hq hW
          · have z234801 : y_in (z_gN q 1 (0 : Int32).toNatClampNeg) (1) (1) := z_w (z_ne1 c234796 (iM_n1 hq _) (by decide)) (by decide) (by decide)
            exact t_k_Mo_holds_94 W S x1 q hx1 hq hW
        · have z234802 : y_in n4 (4) (7) := z_w (z_ne1 c234794 z234793 (by decide)) (by decide) (by decide)
          refine z_ok_i (fun c234803 => ?_) (fun c234803 => ?_)
          · have z234804 : y_in n4 (4) (4) := z_w (z_eq1 c234803 (show y_in (4 : Int32) (4) (4) from ⟨by decide, by decide⟩)) (by decide) (by decide)
            refine z_ok_g (z_nbad (z_w (show y_in (4 : Int32) (4) (4) from ⟨by decide, by decide⟩) (by decide) (Int.le_refl _)) (by decide)) ?_
            exact t_k_Mo_holds_158 W S x1 (z_gN q 1 (4 : Int32).toNatClampNeg) q hx1 (iM_n1 hq _) hq hW
          · have z234805 : y_in n4 (5) (7) := z_w (z_ne1 c234803 z234802 (by decide)) (by decide) (by decide)
            refine z_ok_i (fun c234806 => ?_) (fun c234806 => ?_)
            · have z234807 : y_in n4 (5) (5) := z_w (z_eq1 c234806 (show y_in (5 : Int32) (5) (5) from ⟨by decide, by decide⟩)) (by decide) (by decide)
              refine z_ok_g (z_nbad (z_w (show y_in (1 : Int32) (1) (1) from ⟨by decide, by decide⟩) (by decide) (Int.le_refl _)) (by decide)) ?_
              exact t_k_Mo_holds_158 W S x1 (z_gN q 1 (1 : Int32).toNatClampNeg) q hx1 (iM_n1 hq _) hq hW
            · have z234808 : y_in n4 (6) (7) := z_w (z_ne1 c234806 z234805 (by decide)) (by decide) (by decide)
              refine z_ok_i (fun c234809 => ?_) (fun c234809 => ?_)
              · have z234810 : y_in n4 (6) (6) := z_w (z_eq1 c234809 (show y_in (6 : Int32) (6) (6) from ⟨by decide, by decide⟩)) (by decide) (by decide)
                exact t_k_Mo_holds_158 W S x1 t0 q hx1 ht0 hq hW
              · have z234811 : y_in n4 (7) (7) := z_w (z_ne1 c234809 z234808 (by decide)) (by decide) (by decide)
                refine z_ok_i (fun c234812 => ?_) (fun c234812 => ?_)
                · have z234813 : y_in t0 (0) (0) := z_w (z_eq1 c234812 (show y_in (0 : Int32) (0) (0) from ⟨by decide, by decide⟩)) (by decide) (by decide)
                  refine z_ok_g (z_nbad (z_w (show y_in (3 : Int32) (3) (3) from ⟨by decide, by decide⟩) (by decide) (Int.le_refl _)) (by decide)) ?_
                  refine z_ok_i (fun c234814 => ?_) (fun c234814 => ?_)
                  · have z234815 : y_in (z_gN q 1 (3 : Int32).toNatClampNeg) (0) (0) := z_w (z_eq1 c234814 (show y_in (0 : Int32) (0) (0) from ⟨by decide, by decide⟩)) (by decide) (by decide)
                    exact t_k_Mo_holds_158 W S x1 (0 : Int32) q hx1 (z_w (show y_in (0 : Int32) (0) (0) from ⟨by decide, by decide⟩) (by decide) (by decide)) hq hW
                  · have z234816 : y_in (z_gN q 1 (3 : Int32).toNatClampNeg) (1) (1) := z_w (z_ne1 c234814 (iM_n1 hq _) (by decide)) (by decide) (by decide)
                    exact t_k_Mo_holds_153 W S x1 q hx1 hq hW
                · have z234817 : y_in t0 (1) (1) := z_w (z_ne1 c234812 ht0 (by decide)) (by decide) (by decide)
                  exact t_k_Mo_holds_153 W S x1 q hx1 hq hW

set_option maxHeartbeats 4000000 in
set_option maxRecDepth 100000 in
theorem t_f_Mo_holds (W : Nat) (S : z_SS) (x1 : Int32) (q : z_Sg) (hx1 : y_in x1 (64) (255)) (hq : iM W S q) (hW : W + 0 ≤ 16) : z_ok (f_Mo_holds x1 q) (fun o : Int32 => y_in o (0) (1)) := by
  unfold f_Mo_holds
  refine z_ok_g (z_nbad (z_w (show y_in (4 : Int32) (4) (4) from ⟨by decide, by decide⟩) (by decide) (Int.le_refl _)) (by decide)) ?_
  refine z_ok_g (z_nbad (z_w (show y_in (6 : Int32) (6) (6) from ⟨by decide, by decide⟩) (by decide) (Int.le_refl _)) (by decide)) ?_
  refine z_ok_i (fun c234818 => ?_) (fun c234818 => ?_)
  · exact t_k_Mo_holds_21 W S x1 (0 : Int32) q hx1 (z_w (show y_in (0 : Int32) (0) (0) from ⟨by decide, by decide⟩) (by decide) (by decide)) hq hW
  · exact t_k_Mo_holds_21 W S x1 (1 : Int32) q hx1 (z_w (show y_in (1 : Int32) (1) (1) from ⟨by decide, by decide⟩) (by decide) (by decide)) hq hW

set_option maxHeartbeats 4000000 in
set_option maxRecDepth 100000 in
theorem t_k_Mo_branch_41 (W : Nat) (S : z_SS) (q : z_Sg) (hq : iM W z_Z q) (hW : W + 0 ≤ 16) : z_ok (k_Mo_branch_41 q) (fun o : z_Sg => iM W z_Z o) := by
  unfold k_Mo_branch_41
  exact z_ok_s hq

set_option maxHeartbeats 4000000 in
set_option maxRecDepth 100000 in
theorem t_k_Mo_branch_13 (W : Nat) (S : z_SS) (x1 : Int32) (x2 : Int32) (q : z_Sg) (hx1 : y_in x1 (0) (1)) (hx2 : y_in x2 (1) (4)) (hq : iM W S q) (hW : W + 0 ≤ 16) : z_ok (k_Mo_branch_13 x1 x2 q) (fun o : z_Sg => iM W z_Z o) := by
  unfold k_Mo_branch_13
  refine z_ok_b (t_f_Mo_number W S x2 q (z_w hx2 (by decide) (by decide)) hq (by omega)) (fun r2 hr2 => ?_)
  refine z_ok_i (fun c234819 => ?_) (fun c234819 => ?_)
  · have z234820 : y_in x1 (0) (0) := z_w (z_eq1 c234819 (show y_in (0 : Int32) (0) (0) from ⟨by decide, by decide⟩)) (by decide) (by decide)
    exact t_k_Mo_branch_41 W S r2.2 hr2 hW
  · have z234821 : y_in x1 (1) (1) := z_w (z_ne1 c234819 hx1 (by decide)) (by decide) (by decide)
    refine z_ok_i (fun c234822 => ?_) (fun c234822 => ?_)
    · have z234823 : y_in (z_gI r2.2 4) (-1) (-1) := z_w (z_eq1 c234822 (show y_in (-1 : Int32) (-1) (-1) from ⟨by decide, by decide⟩)) (by decide) (by decide)
      refine z_ok_b (t_f_Mo_jump W z_Z ((z_gL r2.2 7) + r2.1) r2.2 hr2 (by omega)) (fun r5 hr5 => ?_)
      exact t_k_Mo_branch_41 W S r5 hr5 hW
    · have z234824 : y_in (z_gI r2.2 4) (0) (14) := z_w (z_ne1 c234822 (iM_f4 hr2) (by decide)) (by decide) (by decide)
      exact t_k_Mo_branch_41 W S r2.2 hr2 hW

set_option maxHeartbeats 4000000 in
set_option maxRecDepth 100000 in
theorem t_f_Mo_branch (W : Nat) (S : z_SS) (x1 : Int32) (x2 : Int32) (q : z_Sg) (hx1 : y_in x1 (0) (1)) (hx2 : y_in x2 (1) (4)) (hq : iM W S q) (hW : W + 0 ≤ 16) : z_ok (f_Mo_branch x1 x2 q) (fun o : z_Sg => iM W z_Z o) := by
  unfold f_Mo_branch
  refine z_ok_i (fun c234825 => ?_) (fun c234825 => ?_)
  · have z234826 : y_in (z_gI q 16) (0) (0) := z_w (z_eq1 c234825 (show y_in (0 : Int32) (0) (0) from ⟨by decide, by decide⟩)) (by decide) (by decide)
    exact t_k_Mo_branch_13 W S x1 x2 q hx1 hx2 hq hW
  · have z234827 : y_in (z_gI q 16) (1) (1) := z_w (z_ne1 c234825 (iM_f16 hq) (by decide)) (by decide) (by decide)
    refine z_ok_b (t_f_Mo_refuse W S (6 : Int32) q (z_w (show y_in (6 : Int32) (6) (6) from ⟨by decide, by decide⟩) (by decide) (by decide)) hq (by omega)) (fun r6 hr6 => ?_)
    exact t_k_Mo_branch_13 W S x1 x2 r6 hx1 hx2 hr6 hW

set_option maxHeartbeats 4000000 in
set_option maxRecDepth 100000 in
theorem t_k_Mo_shortStack_51 (W : Nat) (S : z_SS) (q : z_Sg) (hq : iM (W + 8) S q) (hW : W + 8 ≤ 16) : z_ok (k_Mo_shortStack_51 q) (fun o : z_Sg => iM (W + 8) S o) := by
  unfold k_Mo_shortStack_51
  exact z_ok_s hq

set_option maxHeartbeats 4000000 in
set_option maxRecDepth 100000 in
theorem t_f_Mo_shortStack (W : Nat) (S : z_SS) (x1 : Int32) (q : z_Sg) (hx1 : y_in x1 (80) (95)) (hq : iM W S q) (hW : W + 8 ≤ 16) : z_ok (f_Mo_shortStack x1 q) (fun o : z_Sg => iM (W + 8) S o) := by
  unfold f_Mo_shortStack
  refine z_ok_b (t_f_Mo_plus W S (1 : Int32) q (z_w (show y_in (1 : Int32) (1) (1) from ⟨by decide, by decide⟩) (by decide) (by decide)) hq (by omega)) (fun r1 hr1 => ?_)
  refine z_ok_n (fun n2 en2 => ?_)
  have hn2 : y_in n2 (0) (15) := z_e en2 (z_w (a' := 0) (b' := 15) (z_add (z_w (a' := 0) (b' := 7) (z_mod 8 hx1 (by decide) rfl (by decide) (by decide)) (by decide) (by decide)) hr1 (by decide) (by decide)) (by decide) (by decide))
  refine z_ok_i (fun c234828 => ?_) (fun c234828 => ?_)
  · have z234829 : y_in x1 (88) (95) := z_w (z_le2 c234828 (show y_in (88 : Int32) (88) (88) from ⟨by decide, by decide⟩) hx1) (by decide) (by decide)
    refine z_ok_b (t_f_Mo_stackSize W S q hq (by omega)) (fun r4 hr4 => ?_)
    refine z_ok_b (t_f_Mo_stackSize W S q hq (by omega)) (fun r5 hr5 => ?_)
    refine z_ok_b (t_f_Mo_pop W S r5 q hr5 hq (by omega)) (fun r6 hr6 => ?_)
    refine z_ok_b (t_f_Mo_put8 W S n2 r4 r6.1 r6.2 hn2 (z_w hr4 (by decide) (by decide)) hr6 (by omega)) (fun r7 hr7 => ?_)
    exact t_k_Mo_shortStack_51 W S r7 (iM_w hr7 (by omega)) hW
  · have z234830 : y_in x1 (80) (87) := z_w (z_nle2 c234828 (show y_in (88 : Int32) (88) (88) from ⟨by decide, by decide⟩) hx1) (by decide) (by decide)
    refine z_ok_g (z_nbad hn2 (by decide)) ?_
    refine z_ok_b (t_f_Mo_stackSize W S q hq (by omega)) (fun r9 hr9 => ?_)
    refine z_ok_b (t_f_Mo_push W S (z_gM q 0 n2.toNatClampNeg) r9 q hr9 hq (by omega)) (fun r10 hr10 => ?_)
    exact t_k_Mo_shortStack_51 W S r10 hr10 hW

set_option maxHeartbeats 4000000 in
set_option maxRecDepth 100000 in
theorem t_k_Mo_arithmetic_160 (W : Nat) (S : z_SS) (q : z_Sg) (hq : iM (W + 8) z_Z q) (hW : W + 8 ≤ 16) : z_ok (k_Mo_arithmetic_160 q) (fun o : z_Sg => iM (W + 8) z_Z o) := by
  unfold k_Mo_arithmetic_160
  exact z_ok_s hq

set_option maxHeartbeats 4000000 in
set_option maxRecDepth 100000 in
theorem t_k_Mo_arithmetic_121 (W : Nat) (S : z_SS) (q : z_Sg) (hq : iM (W + 8) z_Z q) (hW : W + 8 ≤ 16) : z_ok (k_Mo_arithmetic_121 q) (fun o : z_Sg => iM (W + 8) z_Z o) := by
  unfold k_Mo_arithmetic_121
  exact t_k_Mo_arithmetic_160 W S q hq hW

set_option maxHeartbeats 4000000 in
set_option maxRecDepth 100000 in
theorem t_k_Mo_arithmetic_88 (W : Nat) (S : z_SS) (x1 : Int32) (x3 : Int32) (t1 : Int32) (t2 : Int32) (q : z_Sg) (hx1 : y_in x1 (0) (7)) (hx3 : y_in x3 (1) (8)) (ht1 : y_in t1 (1) (8)) (ht2 : y_in t2 (0) (1)) (hq : iM W z_Z q) (hW : W + 8 ≤ 16) (hal : t1 = x3) : z_ok (k_Mo_arithmetic_88 x1 x3 t1 t2 q) (fun o : z_Sg => iM (W + 8) z_Z o) := by
  unfold k_Mo_arithmetic_88
  refine z_ok_b (t_f_Mo_e W z_Z t1 t2 q ht1 ht2 hq (by omega)) (fun r12 hr12 => ?_)
  refine z_ok_b (t_f_Mo_g W (x3, true, fun _ _ _ => True) x3 r12.2 hx3 (show iM W (x3, true, fun _ _ _ => True) r12.2 by rw [← hal]; exact hr12) (by omega)) (fun r13 hr13 => ?_)
  refine z_ok_b (t_f_Mo_reckon W (x3, true, fun _ _ _ => True) x1 r12.1 r13 x3 r12.2 hx1 hx3 (show iM W (x3, true, fun _ _ _ => True) r12.2 by rw [← hal]; exact hr12) (by omega)) (fun r14 hr14 => ?_)
  refine z_ok_i (fun c234831 => ?_) (fun c234831 => ?_)
  · have z234832 : y_in x1 (7) (7) := z_w (z_eq1 c234831 (show y_in (7 : Int32) (7) (7) from ⟨by decide, by decide⟩)) (by decide) (by decide)
    exact t_k_Mo_arithmetic_121 W S r14.2 (iM_w (iM_0 hr14) (by omega)) hW
  · have z234833 : y_in x1 (0) (6) := z_w (z_ne2 c234831 hx1 (by decide)) (by decide) (by decide)
    refine z_ok_b (t_f_Mo_setE W (x3, true, fun _ _ _ => True) x3 r14.1 r14.2 hx3 hr14 (by omega)) (fun r16 hr16 => ?_)
    exact t_k_Mo_arithmetic_121 W S r16 (iM_0 hr16) hW

set_option maxHeartbeats 4000000 in
set_option maxRecDepth 100000 in
theorem t_k_Mo_arithmetic_63 (W : Nat) (S : z_SS) (q : z_Sg) (hq : iM W z_Z q) (hW : W + 8 ≤ 16) : z_ok (k_Mo_arithmetic_63 q) (fun o : z_Sg => iM (W + 8) z_Z o) := by
  unfold k_Mo_arithmetic_63
  exact t_k_Mo_arithmetic_160 W S q (iM_w hq (by omega)) hW

set_option maxHeartbeats 4000000 in
set_option maxRecDepth 100000 in
theorem t_f_Mo_arithmetic (W : Nat) (S : z_SS) (x1 : Int32) (x2 : Int32) (x3 : Int32) (q : z_Sg) (hx1 : y_in x1 (0) (7)) (hx2 : y_in x2 (0) (7)) (hx3 : y_in x3 (1) (8)) (hq : iM W S q) (hW : W + 8 ≤ 16) : z_ok (f_Mo_arithmetic x1 x2 x3 q) (fun o : z_Sg => iM (W + 8) z_Z o) := by
  unfold f_Mo_arithmetic
  refine z_ok_i (fun c234834 => ?_) (fun c234834 => ?_)
  · have z234835 : y_in x2 (0) (5) := z_w (z_le1 c234834 hx2 (show y_in (5 : Int32) (5) (5) from ⟨by decide, by decide⟩)) (by decide) (by decide)
    refine z_ok_i (fun c234836 => ?_) (fun c234836 => ?_)
    · have z234837 : y_in x2 (0) (3) := z_w (z_le1 c234836 z234835 (show y_in (3 : Int32) (3) (3) from ⟨by decide, by decide⟩)) (by decide) (by decide)
      refine z_ok_i (fun c234838 => ?_) (fun c234838 => ?_)
      · have z234839 : y_in x2 (2) (3) := z_w (z_le2 c234838 (show y_in (2 : Int32) (2) (2) from ⟨by decide, by decide⟩) z234837) (by decide) (by decide)
        refine z_ok_b (t_f_Mo_takeOperand W S q hq (by omega)) (fun r4 hr4 => ?_)
        refine z_ok_b (t_f_Mo_g W z_Z x3 r4 hx3 hr4 (by omega)) (fun r5 hr5 => ?_)
        refine z_ok_b (t_f_Mo_e W z_Z x3 (0 : Int32) r4 hx3 (z_w (show y_in (0 : Int32) (0) (0) from ⟨by decide, by decide⟩) (by decide) (by decide)) hr4 (by omega)) (fun r6 hr6 => ?_)
        refine z_ok_b (t_f_Mo_reckon W (x3, true, fun _ _ _ => True) x1 r5 r6.1 x3 r6.2 hx1 hx3 hr6 (by omega)) (fun r7 hr7 => ?_)
        refine z_ok_i (fun c234840 => ?_) (fun c234840 => ?_)
        · have z234841 : y_in x1 (7) (7) := z_w (z_eq1 c234840 (show y_in (7 : Int32) (7) (7) from ⟨by decide, by decide⟩)) (by decide) (by decide)
          exact t_k_Mo_arithmetic_160 W S r7.2 (iM_w (iM_0 hr7) (by omega)) hW
        · have z234842 : y_in x1 (0) (6) := z_w (z_ne2 c234840 hx1 (by decide)) (by decide) (by decide)
          refine z_ok_b (t_f_Mo_setG W (x3, true, fun _ _ _ => True) x3 r7.1 r7.2 hx3 hr7 (by omega)) (fun r9 hr9 => ?_)
          exact t_k_Mo_arithmetic_160 W S r9 (iM_w (iM_0 hr9) (by omega)) hW
      · have z234843 : y_in x2 (0) (1) := z_w (z_nle2 c234838 (show y_in (2 : Int32) (2) (2) from ⟨by decide, by decide⟩) z234837) (by decide) (by decide)
        refine z_ok_b (t_f_Mo_takeOperand W S q hq (by omega)) (fun r10 hr10 => ?_)
        refine z_ok_i (fun c234844 => ?_) (fun c234844 => ?_)
        · have z234845 : y_in x1 (7) (7) := z_w (z_eq1 c234844 (show y_in (7 : Int32) (7) (7) from ⟨by decide, by decide⟩)) (by decide) (by decide)
          exact t_k_Mo_arithmetic_88 W S x1 x3 x3 (0 : Int32) r10 (z_w z234845 (by decide) (by decide)) hx3 hx3 (z_w (show y_in (0 : Int32) (0) (0) from ⟨by decide, by decide⟩) (by decide) (by decide)) hr10 hW rfl
        · have z234846 : y_in x1 (0) (6) := z_w (z_ne2 c234844 hx1 (by decide)) (by decide) (by decide)
          exact t_k_Mo_arithmetic_88 W S x1 x3 x3 (1 : Int32) r10 (z_w z234846 (by decide) (by decide)) hx3 hx3 (z_w (show y_in (1 : Int32) (1) (1) from ⟨by decide, by decide⟩) (by decide) (by decide)) hr10 hW rfl
    · have z234847 : y_in x2 (4) (5) := z_w (z_nle1 c234836 z234835 (show y_in (3 : Int32) (3) (3) from ⟨by decide, by decide⟩)) (by decide) (by decide)
      refine z_ok_b (t_f_Mo_four W S x3 q hx3 hq (by omega)) (fun r17 hr17 => ?_)
      refine z_ok_b (t_f_Mo_number W S r17 q (z_w hr17 (by decide) (by decide)) hq (by omega)) (fun r18 hr18 => ?_)
      refine z_ok_b (t_f_Mo_get8 W z_Z (0 : Int32) x3 r18.2 (z_w (show y_in (0 : Int32) (0) (0) from ⟨by decide, by decide⟩) (by decide) (by decide)) hx3 hr18 (by omega)) (fun r19 hr19 => ?_)
      refine z_ok_b (t_f_Mo_lowest W z_Z r18.1 x3 r18.2 hx3 hr18 (by omega)) (fun r20 hr20 => ?_)
      refine z_ok_b (t_f_Mo_reckon W z_Z x1 r19 r20 x3 r18.2 hx1 hx3 hr18 (by omega)) (fun r21 hr21 => ?_)
      refine z_ok_i (fun c234848 => ?_) (fun c234848 => ?_)
      · have z234849 : y_in x1 (7) (7) := z_w (z_eq1 c234848 (show y_in (7 : Int32) (7) (7) from ⟨by decide, by decide⟩)) (by decide) (by decide)
        exact t_k_Mo_arithmetic_63 W S r21.2 hr21 hW
      · have z234850 : y_in x1 (0) (6) := z_w (z_ne2 c234848 hx1 (by decide)) (by decide) (by decide)
        refine z_ok_b (t_f_Mo_put8 W z_Z (0 : Int32) x3 r21.1 r21.2 (z_w (show y_in (0 : Int32) (0) (0) from ⟨by decide, by decide⟩) (by decide) (by decide)) hx3 hr21 (by omega)) (fun r23 hr23 => ?_)
        exact t_k_Mo_arithmetic_63 W S r23 hr23 hW
  · have z234851 : y_in x2 (6) (7) := z_w (z_nle1 c234834 hx2 (show y_in (5 : Int32) (5) (5) from ⟨by decide, by decide⟩)) (by decide) (by decide)
    refine z_ok_b (t_f_Mo_refuse W S (6 : Int32) q (z_w (show y_in (6 : Int32) (6) (6) from ⟨by decide, by decide⟩) (by decide) (by decide)) hq (by omega)) (fun r24 hr24 => ?_)
    exact t_k_Mo_arithmetic_160 W S r24 (iM_w (iM_0 hr24) (by omega)) hW

set_option maxHeartbeats 4000000 in
set_option maxRecDepth 100000 in
theorem t_k_Mo_first_415 (W : Nat) (S : z_SS) (q : z_Sg) (hq : iM (W + 8) z_Z q) (hW : W + 8 ≤ 16) : z_ok (k_Mo_first_415 q) (fun o : z_Sg => iM (W + 8) z_Z o) := by
  unfold k_Mo_first_415
  exact z_ok_s hq

set_option maxHeartbeats 4000000 in
set_option maxRecDepth 100000 in
theorem t_k_Mo_first_88 (W : Nat) (S : z_SS) (x1 : Int32) (x2 : Int32) (q : z_Sg) (hx1 : y_in x1 (128) (131)) (hx2 : y_in x2 (1) (8)) (hq : iM W S q) (hW : W + 8 ≤ 16) : z_ok (k_Mo_first_88 x1 x2 q) (fun o : z_Sg => iM (W + 8) z_Z o) := by
  unfold k_Mo_first_88
  refine z_ok_b (t_f_Mo_group W S x1 x2 q hx1 hx2 hq (by omega)) (fun r5 hr5 => ?_)
  exact t_k_Mo_first_415 W S r5 hr5 hW

set_option maxHeartbeats 4000000 in
set_option maxRecDepth 100000 in
theorem t_k_Mo_first_233 (W : Nat) (S : z_SS) (x1 : Int32) (x2 : Int32) (q : z_Sg) (hx1 : y_in x1 (192) (211)) (hx2 : y_in x2 (1) (8)) (hq : iM W S q) (hW : W + 8 ≤ 16) : z_ok (k_Mo_first_233 x1 x2 q) (fun o : z_Sg => iM (W + 8) z_Z o) := by
  unfold k_Mo_first_233
  refine z_ok_b (t_f_Mo_shift W S x1 x2 q hx1 hx2 hq (by omega)) (fun r13 hr13 => ?_)
  exact t_k_Mo_first_415 W S r13 hr13 hW

set_option maxHeartbeats 4000000 in
set_option maxRecDepth 100000 in
theorem t_k_Mo_first_326 (W : Nat) (S : z_SS) (t1 : Int32) (t2 : Int32) (q : z_Sg) (ht1 : y_in t1 (0) (0)) (ht2 : y_in t2 (0) (1)) (hq : iM W S q) (hW : W + 8 ≤ 16) : z_ok (k_Mo_first_326 t1 t2 q) (fun o : z_Sg => iM (W + 8) z_Z o) := by
  unfold k_Mo_first_326
  refine z_ok_g (z_nbad ht1 (by decide)) ?_
  refine z_ok_n (fun q21 eq21 => ?_)
  have hq21 : iM W S q21 := by rw [eq21]; exact (iM_sN1 hq)
  exact t_k_Mo_first_415 W S q21 (iM_w (iM_0 hq21) (by omega)) hW

set_option maxHeartbeats 4000000 in
set_option maxRecDepth 100000 in
theorem t_k_Mo_first_285 (W : Nat) (S : z_SS) (x1 : Int32) (q : z_Sg) (hx1 : y_in x1 (245) (249)) (hq : iM W S q) (hW : W + 8 ≤ 16) : z_ok (k_Mo_first_285 x1 q) (fun o : z_Sg => iM (W + 8) z_Z o) := by
  unfold k_Mo_first_285
  refine z_ok_i (fun c234852 => ?_) (fun c234852 => ?_)
  · have z234853 : y_in x1 (245) (245) := z_w (z_eq1 c234852 (show y_in (245 : Int32) (245) (245) from ⟨by decide, by decide⟩)) (by decide) (by decide)
    refine z_ok_g (z_nbad (show y_in (0 : Int32) (0) (0) from ⟨by decide, by decide⟩) (by decide)) ?_
    refine z_ok_i (fun c234854 => ?_) (fun c234854 => ?_)
    · have z234855 : y_in (z_gN q 1 (0 : Int32).toNatClampNeg) (0) (0) := z_w (z_eq1 c234854 (show y_in (0 : Int32) (0) (0) from ⟨by decide, by decide⟩)) (by decide) (by decide)
      exact t_k_Mo_first_326 W S (0 : Int32) (1 : Int32) q (show y_in (0 : Int32) (0) (0) from ⟨by decide, by decide⟩) (z_w (show y_in (1 : Int32) (1) (1) from ⟨by decide, by decide⟩) (by decide) (by decide)) hq hW
    · have z234856 : y_in (z_gN q 1 (0 : Int32).toNatClampNeg) (1) (1) := z_w (z_ne1 c234854 (iM_n1 hq _) (by decide)) (by decide) (by decide)
      exact t_k_Mo_first_326 W S (0 : Int32) (0 : Int32) q (show y_in (0 : Int32) (0) (0) from ⟨by decide, by decide⟩) (z_w (show y_in (0 : Int32) (0) (0) from ⟨by decide, by decide⟩) (by decide) (by decide)) hq hW
  · have z234857 : y_in x1 (246) (249) := z_w (z_ne1 c234852 hx1 (by decide)) (by decide) (by decide)
    refine z_ok_i (fun c234858 => ?_) (fun c234858 => ?_)
    · have z234859 : y_in x1 (249) (249) := z_w (z_eq1 c234858 (show y_in (249 : Int32) (249) (249) from ⟨by decide, by decide⟩)) (by decide) (by decide)
      exact t_k_Mo_first_326 W S (0 : Int32) (1 : Int32) q (show y_in (0 : Int32) (0) (0) from ⟨by decide, by decide⟩) (z_w (show y_in (1 : Int32) (1) (1) from ⟨by decide, by decide⟩) (by decide) (by decide)) hq hW
    · have z234860 : y_in x1 (246) (248) := z_w (z_ne2 c234858 z234857 (by decide)) (by decide) (by decide)
      exact t_k_Mo_first_326 W S (0 : Int32) (0 : Int32) q (show y_in (0 : Int32) (0) (0) from ⟨by decide, by decide⟩) (z_w (show y_in (0 : Int32) (0) (0) from ⟨by decide, by decide⟩) (by decide) (by decide)) hq hW

set_option maxHeartbeats 4000000 in
set_option maxRecDepth 100000 in
theorem t_k_Mo_first_361 (W : Nat) (S : z_SS) (t1 : Int32) (t2 : Int32) (q : z_Sg) (ht1 : y_in t1 (5) (5)) (ht2 : y_in t2 (0) (1)) (hq : iM W S q) (hW : W + 8 ≤ 16) : z_ok (k_Mo_first_361 t1 t2 q) (fun o : z_Sg => iM (W + 8) z_Z o) := by
  unfold k_Mo_first_361
  refine z_ok_g (z_nbad (z_w ht1 (by decide) (Int.le_refl _)) (by decide)) ?_
  refine z_ok_n (fun q29 eq29 => ?_)
  have hq29 : iM W S q29 := by rw [eq29]; exact (iM_sN1 hq)
  exact t_k_Mo_first_415 W S q29 (iM_w (iM_0 hq29) (by omega)) hW

set_option maxHeartbeats 4000000 in
set_option maxRecDepth 100000 in
theorem t_k_Mo_first_344 (W : Nat) (S : z_SS) (x1 : Int32) (q : z_Sg) (hx1 : y_in x1 (252) (253)) (hq : iM W S q) (hW : W + 8 ≤ 16) : z_ok (k_Mo_first_344 x1 q) (fun o : z_Sg => iM (W + 8) z_Z o) := by
  unfold k_Mo_first_344
  refine z_ok_i (fun c234861 => ?_) (fun c234861 => ?_)
  · have z234862 : y_in x1 (253) (253) := z_w (z_eq1 c234861 (show y_in (253 : Int32) (253) (253) from ⟨by decide, by decide⟩)) (by decide) (by decide)
    exact t_k_Mo_first_361 W S (5 : Int32) (1 : Int32) q (show y_in (5 : Int32) (5) (5) from ⟨by decide, by decide⟩) (z_w (show y_in (1 : Int32) (1) (1) from ⟨by decide, by decide⟩) (by decide) (by decide)) hq hW
  · have z234863 : y_in x1 (252) (252) := z_w (z_ne2 c234861 hx1 (by decide)) (by decide) (by decide)
    exact t_k_Mo_first_361 W S (5 : Int32) (0 : Int32) q (show y_in (5 : Int32) (5) (5) from ⟨by decide, by decide⟩) (z_w (show y_in (0 : Int32) (0) (0) from ⟨by decide, by decide⟩) (by decide) (by decide)) hq hW

set_option maxHeartbeats 4000000 in
set_option maxRecDepth 100000 in
theorem t_k_Mo_first_379 (W : Nat) (S : z_SS) (x2 : Int32) (q : z_Sg) (hx2 : y_in x2 (1) (8)) (hq : iM W S q) (hW : W + 8 ≤ 16) : z_ok (k_Mo_first_379 x2 q) (fun o : z_Sg => iM (W + 8) z_Z o) := by
  unfold k_Mo_first_379
  refine z_ok_b (t_f_Mo_unary W S x2 q hx2 hq (by omega)) (fun r32 hr32 => ?_)
  exact t_k_Mo_first_415 W S r32 hr32 hW

set_option maxHeartbeats 4000000 in
set_option maxRecDepth 100000 in
theorem t_k_Mo_first_401 (W : Nat) (S : z_SS) (x2 : Int32) (q : z_Sg) (hx2 : y_in x2 (1) (8)) (hq : iM W S q) (hW : W + 8 ≤ 16) : z_ok (k_Mo_first_401 x2 q) (fun o : z_Sg => iM (W + 8) z_Z o) := by
  unfold k_Mo_first_401
  refine z_ok_b (t_f_Mo_more W S x2 q hx2 hq (by omega)) (fun r35 hr35 => ?_)
  exact t_k_Mo_first_415 W S r35 hr35 hW

set_option maxHeartbeats 4000000 in
set_option maxRecDepth 100000 in
theorem t_k_Mo_first_264 (W : Nat) (S : z_SS) (x1 : Int32) (x2 : Int32) (q : z_Sg) (hx1 : y_in x1 (64) (255)) (hx2 : y_in x2 (1) (8)) (hq : iM W S q) (hW : W + 8 ≤ 16) : z_ok (k_Mo_first_264 x1 x2 q) (fun o : z_Sg => iM (W + 8) z_Z o) := by
  unfold k_Mo_first_264
  refine z_ok_i (fun c234864 => ?_) (fun c234864 => ?_)
  · have z234865 : y_in x1 (245) (245) := z_w (z_eq1 c234864 (show y_in (245 : Int32) (245) (245) from ⟨by decide, by decide⟩)) (by decide) (by decide)
    exact t_k_Mo_first_285 W S x1 q (z_w z234865 (by decide) (by decide)) hq hW
  · refine z_ok_i (fun c234866 => ?_) (fun c234866 => ?_)
    · have z234867 : y_in x1 (248) (248) := z_w (z_eq1 c234866 (show y_in (248 : Int32) (248) (248) from ⟨by decide, by decide⟩)) (by decide) (by decide)
      exact t_k_Mo_first_285 W S x1 q (z_w z234867 (by decide) (by decide)) hq hW
    · refine z_ok_i (fun c234868 => ?_) (fun c234868 => ?_)
      · have z234869 : y_in x1 (249) (249) := z_w (z_eq1 c234868 (show y_in (249 : Int32) (249) (249) from ⟨by decide, by decide⟩)) (by decide) (by decide)
        exact t_k_Mo_first_285 W S x1 q (z_w z234869 (by decide) (by decide)) hq hW
      · refine z_ok_i (fun c234870 => ?_) (fun c234870 => ?_)
        · have z234871 : y_in x1 (252) (252) := z_w (z_eq1 c234870 (show y_in (252 : Int32) (252) (252) from ⟨by decide, by decide⟩)) (by decide) (by decide)
          exact t_k_Mo_first_344 W S x1 q (z_w z234871 (by decide) (by decide)) hq hW
        · refine z_ok_i (fun c234872 => ?_) (fun c234872 => ?_)
          · have z234873 : y_in x1 (253) (253) := z_w (z_eq1 c234872 (show y_in (253 : Int32) (253) (253) from ⟨by decide, by decide⟩)) (by decide) (by decide)
            exact t_k_Mo_first_344 W S x1 q (z_w z234873 (by decide) (by decide)) hq hW
          · refine z_ok_i (fun c234874 => ?_) (fun c234874 => ?_)
            · have z234875 : y_in x1 (246) (246) := z_w (z_eq1 c234874 (show y_in (246 : Int32) (246) (246) from ⟨by decide, by decide⟩)) (by decide) (by decide)
              exact t_k_Mo_first_379 W S x2 q hx2 hq hW
            · refine z_ok_i (fun c234876 => ?_) (fun c234876 => ?_)
              · have z234877 : y_in x1 (247) (247) := z_w (z_eq1 c234876 (show y_in (247 : Int32) (247) (247) from ⟨by decide, by decide⟩)) (by decide) (by decide)
                exact t_k_Mo_first_379 W S x2 q hx2 hq hW
              · refine z_ok_i (fun c234878 => ?_) (fun c234878 => ?_)
                · have z234879 : y_in x1 (254) (254) := z_w (z_eq1 c234878 (show y_in (254 : Int32) (254) (254) from ⟨by decide, by decide⟩)) (by decide) (by decide)
                  exact t_k_Mo_first_401 W S x2 q hx2 hq hW
                · refine z_ok_i (fun c234880 => ?_) (fun c234880 => ?_)
                  · have z234881 : y_in x1 (255) (255) := z_w (z_eq1 c234880 (show y_in (255 : Int32) (255) (255) from ⟨by decide, by decide⟩)) (by decide) (by decide)
                    exact t_k_Mo_first_401 W S x2 q hx2 hq hW
                  · have z234882 : y_in x1 (64) (254) := z_w (z_ne2 c234880 hx1 (by decide)) (by decide) (by decide)
                    refine z_ok_b (t_f_Mo_others W S x1 x2 q z234882 hx2 hq (by omega)) (fun r37 hr37 => ?_)
                    exact t_k_Mo_first_415 W S r37 hr37 hW

set_option maxHeartbeats 4000000 in
set_option maxRecDepth 100000 in
theorem t_k_Mo_first_242 (W : Nat) (S : z_SS) (x1 : Int32) (x2 : Int32) (q : z_Sg) (hx1 : y_in x1 (64) (255)) (hx2 : y_in x2 (1) (8)) (hq : iM W S q) (hW : W + 8 ≤ 16) : z_ok (k_Mo_first_242 x1 x2 q) (fun o : z_Sg => iM (W + 8) z_Z o) := by
  unfold k_Mo_first_242
  refine z_ok_i (fun c234883 => ?_) (fun c234883 => ?_)
  · have z234884 : y_in x1 (64) (223) := z_w (z_lt1 c234883 hx1 (show y_in (224 : Int32) (224) (224) from ⟨by decide, by decide⟩)) (by decide) (by decide)
    exact t_k_Mo_first_264 W S x1 x2 q (z_w z234884 (by decide) (by decide)) hx2 hq hW
  · have z234885 : y_in x1 (224) (255) := z_w (z_nlt1 c234883 hx1 (show y_in (224 : Int32) (224) (224) from ⟨by decide, by decide⟩)) (by decide) (by decide)
    refine z_ok_i (fun c234886 => ?_) (fun c234886 => ?_)
    · have z234887 : y_in x1 (228) (255) := z_w (z_lt2 c234886 (show y_in (227 : Int32) (227) (227) from ⟨by decide, by decide⟩) z234885) (by decide) (by decide)
      exact t_k_Mo_first_264 W S x1 x2 q (z_w z234887 (by decide) (by decide)) hx2 hq hW
    · have z234888 : y_in x1 (224) (227) := z_w (z_nlt2 c234886 (show y_in (227 : Int32) (227) (227) from ⟨by decide, by decide⟩) z234885) (by decide) (by decide)
      refine z_ok_b (t_f_Mo_loop W S x1 q z234888 hq (by omega)) (fun r39 hr39 => ?_)
      exact t_k_Mo_first_415 W S r39 (iM_w hr39 (by omega)) hW

set_option maxHeartbeats 4000000 in
set_option maxRecDepth 100000 in
theorem t_k_Mo_first_205 (W : Nat) (S : z_SS) (x1 : Int32) (x2 : Int32) (q : z_Sg) (hx1 : y_in x1 (64) (255)) (hx2 : y_in x2 (1) (8)) (hq : iM W S q) (hW : W + 8 ≤ 16) : z_ok (k_Mo_first_205 x1 x2 q) (fun o : z_Sg => iM (W + 8) z_Z o) := by
  unfold k_Mo_first_205
  refine z_ok_i (fun c234889 => ?_) (fun c234889 => ?_)
  · have z234890 : y_in x1 (192) (192) := z_w (z_eq1 c234889 (show y_in (192 : Int32) (192) (192) from ⟨by decide, by decide⟩)) (by decide) (by decide)
    exact t_k_Mo_first_233 W S x1 x2 q (z_w z234890 (by decide) (by decide)) hx2 hq hW
  · refine z_ok_i (fun c234891 => ?_) (fun c234891 => ?_)
    · have z234892 : y_in x1 (193) (193) := z_w (z_eq1 c234891 (show y_in (193 : Int32) (193) (193) from ⟨by decide, by decide⟩)) (by decide) (by decide)
      exact t_k_Mo_first_233 W S x1 x2 q (z_w z234892 (by decide) (by decide)) hx2 hq hW
    · refine z_ok_i (fun c234893 => ?_) (fun c234893 => ?_)
      · have z234894 : y_in x1 (64) (207) := z_w (z_lt1 c234893 hx1 (show y_in (208 : Int32) (208) (208) from ⟨by decide, by decide⟩)) (by decide) (by decide)
        exact t_k_Mo_first_242 W S x1 x2 q (z_w z234894 (by decide) (by decide)) hx2 hq hW
      · have z234895 : y_in x1 (208) (255) := z_w (z_nlt1 c234893 hx1 (show y_in (208 : Int32) (208) (208) from ⟨by decide, by decide⟩)) (by decide) (by decide)
        refine z_ok_i (fun c234896 => ?_) (fun c234896 => ?_)
        · have z234897 : y_in x1 (212) (255) := z_w (z_lt2 c234896 (show y_in (211 : Int32) (211) (211) from ⟨by decide, by decide⟩) z234895) (by decide) (by decide)
          exact t_k_Mo_first_242 W S x1 x2 q (z_w z234897 (by decide) (by decide)) hx2 hq hW
        · have z234898 : y_in x1 (208) (211) := z_w (z_nlt2 c234896 (show y_in (211 : Int32) (211) (211) from ⟨by decide, by decide⟩) z234895) (by decide) (by decide)
          exact t_k_Mo_first_233 W S x1 x2 q (z_w z234898 (by decide) (by decide)) hx2 hq hW

set_option maxHeartbeats 4000000 in
set_option maxRecDepth 100000 in
theorem t_k_Mo_first_183 (W : Nat) (S : z_SS) (x1 : Int32) (x2 : Int32) (q : z_Sg) (hx1 : y_in x1 (64) (255)) (hx2 : y_in x2 (1) (8)) (hq : iM W S q) (hW : W + 8 ≤ 16) : z_ok (k_Mo_first_183 x1 x2 q) (fun o : z_Sg => iM (W + 8) z_Z o) := by
  unfold k_Mo_first_183
  refine z_ok_i (fun c234899 => ?_) (fun c234899 => ?_)
  · have z234900 : y_in x1 (64) (175) := z_w (z_lt1 c234899 hx1 (show y_in (176 : Int32) (176) (176) from ⟨by decide, by decide⟩)) (by decide) (by decide)
    exact t_k_Mo_first_205 W S x1 x2 q (z_w z234900 (by decide) (by decide)) hx2 hq hW
  · have z234901 : y_in x1 (176) (255) := z_w (z_nlt1 c234899 hx1 (show y_in (176 : Int32) (176) (176) from ⟨by decide, by decide⟩)) (by decide) (by decide)
    refine z_ok_i (fun c234902 => ?_) (fun c234902 => ?_)
    · have z234903 : y_in x1 (192) (255) := z_w (z_lt2 c234902 (show y_in (191 : Int32) (191) (191) from ⟨by decide, by decide⟩) z234901) (by decide) (by decide)
      exact t_k_Mo_first_205 W S x1 x2 q (z_w z234903 (by decide) (by decide)) hx2 hq hW
    · have z234904 : y_in x1 (176) (191) := z_w (z_nlt2 c234902 (show y_in (191 : Int32) (191) (191) from ⟨by decide, by decide⟩) z234901) (by decide) (by decide)
      refine z_ok_b (t_f_Mo_immediate W S x1 q z234904 hq (by omega)) (fun r42 hr42 => ?_)
      exact t_k_Mo_first_415 W S r42 (iM_w hr42 (by omega)) hW

set_option maxHeartbeats 4000000 in
set_option maxRecDepth 100000 in
theorem t_k_Mo_first_142 (W : Nat) (S : z_SS) (x1 : Int32) (x2 : Int32) (q : z_Sg) (hx1 : y_in x1 (64) (255)) (hx2 : y_in x2 (1) (8)) (hq : iM W S q) (hW : W + 8 ≤ 16) : z_ok (k_Mo_first_142 x1 x2 q) (fun o : z_Sg => iM (W + 8) z_Z o) := by
  unfold k_Mo_first_142
  refine z_ok_i (fun c234905 => ?_) (fun c234905 => ?_)
  · have z234906 : y_in x1 (64) (163) := z_w (z_lt1 c234905 hx1 (show y_in (164 : Int32) (164) (164) from ⟨by decide, by decide⟩)) (by decide) (by decide)
    exact t_k_Mo_first_183 W S x1 x2 q (z_w z234906 (by decide) (by decide)) hx2 hq hW
  · have z234907 : y_in x1 (164) (255) := z_w (z_nlt1 c234905 hx1 (show y_in (164 : Int32) (164) (164) from ⟨by decide, by decide⟩)) (by decide) (by decide)
    refine z_ok_i (fun c234908 => ?_) (fun c234908 => ?_)
    · have z234909 : y_in x1 (176) (255) := z_w (z_lt2 c234908 (show y_in (175 : Int32) (175) (175) from ⟨by decide, by decide⟩) z234907) (by decide) (by decide)
      exact t_k_Mo_first_183 W S x1 x2 q (z_w z234909 (by decide) (by decide)) hx2 hq hW
    · have z234910 : y_in x1 (164) (175) := z_w (z_nlt2 c234908 (show y_in (175 : Int32) (175) (175) from ⟨by decide, by decide⟩) z234907) (by decide) (by decide)
      refine z_ok_i (fun c234911 => ?_) (fun c234911 => ?_)
      · have z234912 : y_in x1 (168) (168) := z_w (z_eq1 c234911 (show y_in (168 : Int32) (168) (168) from ⟨by decide, by decide⟩)) (by decide) (by decide)
        exact t_k_Mo_first_183 W S x1 x2 q (z_w z234912 (by decide) (by decide)) hx2 hq hW
      · refine z_ok_i (fun c234913 => ?_) (fun c234913 => ?_)
        · have z234914 : y_in x1 (169) (169) := z_w (z_eq1 c234913 (show y_in (169 : Int32) (169) (169) from ⟨by decide, by decide⟩)) (by decide) (by decide)
          exact t_k_Mo_first_183 W S x1 x2 q (z_w z234914 (by decide) (by decide)) hx2 hq hW
        · refine z_ok_b (t_f_Mo_string W S (x1 &&& (254 : Int32)) x2 q (z_andl z234910 (by decide)) hx2 hq (by omega)) (fun r46 hr46 => ?_)
          exact t_k_Mo_first_415 W S r46 (iM_0 hr46) hW

set_option maxHeartbeats 4000000 in
set_option maxRecDepth 100000 in
theorem t_k_Mo_first_120 (W : Nat) (S : z_SS) (x1 : Int32) (x2 : Int32) (q : z_Sg) (hx1 : y_in x1 (64) (255)) (hx2 : y_in x2 (1) (8)) (hq : iM W S q) (hW : W + 8 ≤ 16) : z_ok (k_Mo_first_120 x1 x2 q) (fun o : z_Sg => iM (W + 8) z_Z o) := by
  unfold k_Mo_first_120
  refine z_ok_i (fun c234915 => ?_) (fun c234915 => ?_)
  · have z234916 : y_in x1 (64) (143) := z_w (z_lt1 c234915 hx1 (show y_in (144 : Int32) (144) (144) from ⟨by decide, by decide⟩)) (by decide) (by decide)
    exact t_k_Mo_first_142 W S x1 x2 q (z_w z234916 (by decide) (by decide)) hx2 hq hW
  · have z234917 : y_in x1 (144) (255) := z_w (z_nlt1 c234915 hx1 (show y_in (144 : Int32) (144) (144) from ⟨by decide, by decide⟩)) (by decide) (by decide)
    refine z_ok_i (fun c234918 => ?_) (fun c234918 => ?_)
    · have z234919 : y_in x1 (154) (255) := z_w (z_lt2 c234918 (show y_in (153 : Int32) (153) (153) from ⟨by decide, by decide⟩) z234917) (by decide) (by decide)
      exact t_k_Mo_first_142 W S x1 x2 q (z_w z234919 (by decide) (by decide)) hx2 hq hW
    · have z234920 : y_in x1 (144) (153) := z_w (z_nlt2 c234918 (show y_in (153 : Int32) (153) (153) from ⟨by decide, by decide⟩) z234917) (by decide) (by decide)
      refine z_ok_b (t_f_Mo_turn W S x1 q z234920 hq (by omega)) (fun r48 hr48 => ?_)
      exact t_k_Mo_first_415 W S r48 (iM_w (iM_0 hr48) (by omega)) hW

set_option maxHeartbeats 4000000 in
set_option maxRecDepth 100000 in
theorem t_k_Mo_first_67 (W : Nat) (S : z_SS) (x1 : Int32) (x2 : Int32) (q : z_Sg) (hx1 : y_in x1 (64) (255)) (hx2 : y_in x2 (1) (8)) (hq : iM W S q) (hW : W + 8 ≤ 16) : z_ok (k_Mo_first_67 x1 x2 q) (fun o : z_Sg => iM (W + 8) z_Z o) := by
  unfold k_Mo_first_67
  refine z_ok_i (fun c234921 => ?_) (fun c234921 => ?_)
  · have z234922 : y_in x1 (128) (128) := z_w (z_eq1 c234921 (show y_in (128 : Int32) (128) (128) from ⟨by decide, by decide⟩)) (by decide) (by decide)
    exact t_k_Mo_first_88 W S x1 x2 q (z_w z234922 (by decide) (by decide)) hx2 hq hW
  · refine z_ok_i (fun c234923 => ?_) (fun c234923 => ?_)
    · have z234924 : y_in x1 (129) (129) := z_w (z_eq1 c234923 (show y_in (129 : Int32) (129) (129) from ⟨by decide, by decide⟩)) (by decide) (by decide)
      exact t_k_Mo_first_88 W S x1 x2 q (z_w z234924 (by decide) (by decide)) hx2 hq hW
    · refine z_ok_i (fun c234925 => ?_) (fun c234925 => ?_)
      · have z234926 : y_in x1 (131) (131) := z_w (z_eq1 c234925 (show y_in (131 : Int32) (131) (131) from ⟨by decide, by decide⟩)) (by decide) (by decide)
        exact t_k_Mo_first_88 W S x1 x2 q (z_w z234926 (by decide) (by decide)) hx2 hq hW
      · refine z_ok_i (fun c234927 => ?_) (fun c234927 => ?_)
        · have z234928 : y_in x1 (64) (131) := z_w (z_lt1 c234927 hx1 (show y_in (132 : Int32) (132) (132) from ⟨by decide, by decide⟩)) (by decide) (by decide)
          exact t_k_Mo_first_120 W S x1 x2 q (z_w z234928 (by decide) (by decide)) hx2 hq hW
        · have z234929 : y_in x1 (132) (255) := z_w (z_nlt1 c234927 hx1 (show y_in (132 : Int32) (132) (132) from ⟨by decide, by decide⟩)) (by decide) (by decide)
          refine z_ok_i (fun c234930 => ?_) (fun c234930 => ?_)
          · have z234931 : y_in x1 (140) (255) := z_w (z_lt2 c234930 (show y_in (139 : Int32) (139) (139) from ⟨by decide, by decide⟩) z234929) (by decide) (by decide)
            exact t_k_Mo_first_120 W S x1 x2 q (z_w z234931 (by decide) (by decide)) hx2 hq hW
          · have z234932 : y_in x1 (132) (139) := z_w (z_nlt2 c234930 (show y_in (139 : Int32) (139) (139) from ⟨by decide, by decide⟩) z234929) (by decide) (by decide)
            refine z_ok_b (t_f_Mo_move W S x1 x2 q z234932 hx2 hq (by omega)) (fun r50 hr50 => ?_)
            exact t_k_Mo_first_415 W S r50 hr50 hW

set_option maxHeartbeats 4000000 in
set_option maxRecDepth 100000 in
theorem t_k_Mo_first_42 (W : Nat) (S : z_SS) (x1 : Int32) (x2 : Int32) (q : z_Sg) (hx1 : y_in x1 (64) (255)) (hx2 : y_in x2 (1) (8)) (hq : iM W S q) (hW : W + 8 ≤ 16) : z_ok (k_Mo_first_42 x1 x2 q) (fun o : z_Sg => iM (W + 8) z_Z o) := by
  unfold k_Mo_first_42
  refine z_ok_i (fun c234933 => ?_) (fun c234933 => ?_)
  · have z234934 : y_in x1 (64) (111) := z_w (z_lt1 c234933 hx1 (show y_in (112 : Int32) (112) (112) from ⟨by decide, by decide⟩)) (by decide) (by decide)
    exact t_k_Mo_first_67 W S x1 x2 q (z_w z234934 (by decide) (by decide)) hx2 hq hW
  · have z234935 : y_in x1 (112) (255) := z_w (z_nlt1 c234933 hx1 (show y_in (112 : Int32) (112) (112) from ⟨by decide, by decide⟩)) (by decide) (by decide)
    refine z_ok_i (fun c234936 => ?_) (fun c234936 => ?_)
    · have z234937 : y_in x1 (128) (255) := z_w (z_lt2 c234936 (show y_in (127 : Int32) (127) (127) from ⟨by decide, by decide⟩) z234935) (by decide) (by decide)
      exact t_k_Mo_first_67 W S x1 x2 q (z_w z234937 (by decide) (by decide)) hx2 hq hW
    · have z234938 : y_in x1 (112) (127) := z_w (z_nlt2 c234936 (show y_in (127 : Int32) (127) (127) from ⟨by decide, by decide⟩) z234935) (by decide) (by decide)
      refine z_ok_b (t_f_Mo_holds W S x1 q (z_w z234938 (by decide) (by decide)) hq (by omega)) (fun r52 hr52 => ?_)
      refine z_ok_b (t_f_Mo_branch W S r52 (1 : Int32) q hr52 (z_w (show y_in (1 : Int32) (1) (1) from ⟨by decide, by decide⟩) (by decide) (by decide)) hq (by omega)) (fun r53 hr53 => ?_)
      exact t_k_Mo_first_415 W S r53 (iM_w hr53 (by omega)) hW

set_option maxHeartbeats 4000000 in
set_option maxRecDepth 100000 in
theorem t_f_Mo_first (W : Nat) (S : z_SS) (x1 : Int32) (x2 : Int32) (q : z_Sg) (hx1 : y_in x1 (0) (255)) (hx2 : y_in x2 (1) (8)) (hq : iM W S q) (hW : W + 8 ≤ 16) : z_ok (f_Mo_first x1 x2 q) (fun o : z_Sg => iM (W + 8) z_Z o) := by
  unfold f_Mo_first
  refine z_ok_i (fun c234939 => ?_) (fun c234939 => ?_)
  · have z234940 : y_in x1 (64) (255) := z_w (z_le2 c234939 (show y_in (64 : Int32) (64) (64) from ⟨by decide, by decide⟩) hx1) (by decide) (by decide)
    refine z_ok_i (fun c234941 => ?_) (fun c234941 => ?_)
    · have z234942 : y_in x1 (64) (79) := z_w (z_lt1 c234941 z234940 (show y_in (80 : Int32) (80) (80) from ⟨by decide, by decide⟩)) (by decide) (by decide)
      exact t_k_Mo_first_42 W S x1 x2 q (z_w z234942 (by decide) (by decide)) hx2 hq hW
    · have z234943 : y_in x1 (80) (255) := z_w (z_nlt1 c234941 z234940 (show y_in (80 : Int32) (80) (80) from ⟨by decide, by decide⟩)) (by decide) (by decide)
      refine z_ok_i (fun c234944 => ?_) (fun c234944 => ?_)
      · have z234945 : y_in x1 (96) (255) := z_w (z_lt2 c234944 (show y_in (95 : Int32) (95) (95) from ⟨by decide, by decide⟩) z234943) (by decide) (by decide)
        exact t_k_Mo_first_42 W S x1 x2 q (z_w z234945 (by decide) (by decide)) hx2 hq hW
      · have z234946 : y_in x1 (80) (95) := z_w (z_nlt2 c234944 (show y_in (95 : Int32) (95) (95) from ⟨by decide, by decide⟩) z234943) (by decide) (by decide)
        refine z_ok_b (t_f_Mo_shortStack W S x1 q z234946 hq (by omega)) (fun r55 hr55 => ?_)
        exact t_k_Mo_first_415 W S r55 (iM_0 hr55) hW
  · have z234947 : y_in x1 (0) (63) := z_w (z_nle2 c234939 (show y_in (64 : Int32) (64) (64) from ⟨by decide, by decide⟩) hx1) (by decide) (by decide)
    refine z_ok_b (t_f_Mo_arithmetic W S (x1 / (8 : Int32)) (x1 - ((x1 / (8 : Int32)) * (8 : Int32))) x2 q (z_w (a' := 0) (b' := 7) (z_div 8 z234947 (by decide) rfl (by decide) (by decide)) (by decide) (by decide)) (z_w (a' := 0) (b' := 7) (z_mod 8 z234947 (by decide) rfl (by decide) (by decide)) (by decide) (by decide)) hx2 hq (by omega)) (fun r56 hr56 => ?_)
    exact t_k_Mo_first_415 W S r56 hr56 hW

set_option maxHeartbeats 4000000 in
set_option maxRecDepth 100000 in
theorem t_k_Mo_system_116 (W : Nat) (S : z_SS) (q : z_Sg) (hq : iM W S q) (hW : W + 0 ≤ 16) : z_ok (k_Mo_system_116 q) (fun o : z_Sg => iM W S o) := by
  unfold k_Mo_system_116
  exact z_ok_s hq

set_option maxHeartbeats 4000000 in
set_option maxRecDepth 100000 in
theorem t_k_Mo_system_81 (W : Nat) (S : z_SS) (q : z_Sg) (hq : iM W S q) (hW : W + 0 ≤ 16) : z_ok (k_Mo_system_81 q) (fun o : z_Sg => iM W S o) := by
  unfold k_Mo_system_81
  refine z_ok_b (t_f_Mo_refuse W S (13 : Int32) q (z_w (show y_in (13 : Int32) (13) (13) from ⟨by decide, by decide⟩) (by decide) (by decide)) hq (by omega)) (fun r3 hr3 => ?_)
  exact t_k_Mo_system_116 W S r3 hr3 hW

set_option maxHeartbeats 4000000 in
set_option maxRecDepth 100000 in
theorem t_f_Mo_system (W : Nat) (S : z_SS) (x1 : Int32) (q : z_Sg) (hx1 : y_in x1 (0) (1)) (hq : iM W S q) (hW : W + 0 ≤ 16) : z_ok (f_Mo_system x1 q) (fun o : z_Sg => iM W S o) := by
  unfold f_Mo_system
  refine z_ok_i (fun c234948 => ?_) (fun c234948 => ?_)
  · have z234949 : y_in x1 (0) (0) := z_w (z_eq1 c234948 (show y_in (0 : Int32) (0) (0) from ⟨by decide, by decide⟩)) (by decide) (by decide)
    refine z_ok_i (fun c234950 => ?_) (fun c234950 => ?_)
    · have z234951 : y_in (z_gI q 2) (0) (0) := z_w (z_eq1 c234950 (show y_in (0 : Int32) (0) (0) from ⟨by decide, by decide⟩)) (by decide) (by decide)
      refine z_ok_g (z_nbad (z_w (show y_in (1 : Int32) (1) (1) from ⟨by decide, by decide⟩) (by decide) (Int.le_refl _)) (by decide)) ?_
      refine z_ok_b (t_f_Mo_isWrong W S (z_gM q 0 (1 : Int32).toNatClampNeg) q hq (by omega)) (fun r5 hr5 => ?_)
      refine z_ok_i (fun c234952 => ?_) (fun c234952 => ?_)
      · have z234953 : y_in r5 (0) (0) := z_w (z_eq1 c234952 (show y_in (0 : Int32) (0) (0) from ⟨by decide, by decide⟩)) (by decide) (by decide)
        refine z_ok_g (z_nbad (z_w (show y_in (1 : Int32) (1) (1) from ⟨by decide, by decide⟩) (by decide) (Int.le_refl _)) (by decide)) ?_
        refine z_ok_n (fun q8 eq8 => ?_)
        have hq8 : iM W S q8 := by rw [eq8]; exact (iM_sL hq)
        refine z_ok_g (z_nbad (z_w (show y_in (11 : Int32) (11) (11) from ⟨by decide, by decide⟩) (by decide) (Int.le_refl _)) (by decide)) ?_
        refine z_ok_b (t_f_Mo_setFlags W S (z_gM q8 0 (11 : Int32).toNatClampNeg) q8 hq8 (by omega)) (fun r10 hr10 => ?_)
        refine z_ok_n (fun q11 eq11 => ?_)
        have hq11 : iM W S q11 := by rw [eq11]; exact (iM_sI2 hr10 (z_w (show y_in (1 : Int32) (1) (1) from ⟨by decide, by decide⟩) (by decide) (by decide)))
        exact t_k_Mo_system_116 W S q11 hq11 hW
      · have z234954 : y_in r5 (1) (1) := z_w (z_ne1 c234952 hr5 (by decide)) (by decide) (by decide)
        exact t_k_Mo_system_81 W S q hq hW
    · have z234955 : y_in (z_gI q 2) (1) (1) := z_w (z_ne1 c234950 (iM_f2 hq) (by decide)) (by decide) (by decide)
      exact t_k_Mo_system_81 W S q hq hW
  · have z234956 : y_in x1 (1) (1) := z_w (z_ne1 c234948 hx1 (by decide)) (by decide) (by decide)
    refine z_ok_g (z_nbad (z_w (show y_in (1 : Int32) (1) (1) from ⟨by decide, by decide⟩) (by decide) (Int.le_refl _)) (by decide)) ?_
    refine z_ok_n (fun q13 eq13 => ?_)
    have hq13 : iM W S q13 := by rw [eq13]; exact (iM_sM0 hq)
    refine z_ok_b (t_f_Mo_flags W S q13 hq13 (by omega)) (fun r14 hr14 => ?_)
    refine z_ok_g (z_nbad (z_w (show y_in (11 : Int32) (11) (11) from ⟨by decide, by decide⟩) (by decide) (Int.le_refl _)) (by decide)) ?_
    refine z_ok_n (fun q16 eq16 => ?_)
    have hq16 : iM W S q16 := by rw [eq16]; exact (iM_sM0 hq13)
    refine z_ok_n (fun q17 eq17 => ?_)
    have hq17 : iM W S q17 := by rw [eq17]; exact (iM_sL hq16)
    refine z_ok_b (t_f_Mo_flags W S q17 hq17 (by omega)) (fun r18 hr18 => ?_)
    refine z_ok_b (t_f_Mo_setFlags W S (r18 &&& ((z_gL q17 3) ^^^ (-1 : Int64))) q17 hq17 (by omega)) (fun r19 hr19 => ?_)
    refine z_ok_n (fun q20 eq20 => ?_)
    have hq20 : iM W S q20 := by rw [eq20]; exact (iM_sI2 hr19 (z_w (show y_in (0 : Int32) (0) (0) from ⟨by decide, by decide⟩) (by decide) (by decide)))
    exact t_k_Mo_system_116 W S q20 hq20 hW


theorem t_f_Ma_floorModM (x0 x2 : Int64) (q : z_Sg) (h : ¬ x2 = 0) : z_ok (f_Ma_floorModM x0 x2 q) (fun _ : Int64 => True) := by
  unfold f_Ma_floorModM k_Ma_floorModM_25
  refine z_ok_g h ?_
  refine z_ok_n (fun n2 en2 => ?_)
  refine z_ok_i (fun c => z_ok_s trivial) (fun c => ?_)
  exact z_ok_i (fun c => z_ok_s trivial) (fun c => z_ok_s trivial)


theorem t_f_Ma_floorDivM (x0 x2 : Int64) (q : z_Sg) (h : ¬ x2 = 0) : z_ok (f_Ma_floorDivM x0 x2 q) (fun _ : Int64 => True) := by
  unfold f_Ma_floorDivM k_Ma_floorDivM_27
  refine z_ok_g h ?_
  refine z_ok_n (fun n2 en2 => ?_)
  refine z_ok_i (fun c => z_ok_s trivial) (fun c => ?_)
  exact z_ok_i (fun c => z_ok_s trivial) (fun c => z_ok_s trivial)

set_option maxHeartbeats 4000000 in
set_option maxRecDepth 100000 in
theorem t_k_Mo_bit_239 (W : Nat) (S : z_SS) (q : z_Sg) (hq : iM (W + 8) z_Z q) (hW : W + 8 ≤ 16) : z_ok (k_Mo_bit_239 q) (fun o : z_Sg => iM (W + 8) z_Z o) := by
  unfold k_Mo_bit_239
  refine z_ok_b (t_f_Mo_leave (W + 8) z_Z (6 : Int32) q (z_w (show y_in (6 : Int32) (6) (6) from ⟨by decide, by decide⟩) (by decide) (by decide)) hq (by omega)) (fun r22 hr22 => ?_)
  refine z_ok_b (t_f_Mo_leave (W + 8) z_Z (4 : Int32) r22 (z_w (show y_in (4 : Int32) (4) (4) from ⟨by decide, by decide⟩) (by decide) (by decide)) hr22 (by omega)) (fun r23 hr23 => ?_)
  refine z_ok_b (t_f_Mo_leave (W + 8) z_Z (2 : Int32) r23 (z_w (show y_in (2 : Int32) (2) (2) from ⟨by decide, by decide⟩) (by decide) (by decide)) hr23 (by omega)) (fun r24 hr24 => ?_)
  refine z_ok_b (t_f_Mo_leave (W + 8) z_Z (1 : Int32) r24 (z_w (show y_in (1 : Int32) (1) (1) from ⟨by decide, by decide⟩) (by decide) (by decide)) hr24 (by omega)) (fun r25 hr25 => ?_)
  exact z_ok_s hr25

theorem t_k_Mo_bit_223 (W : Nat) (S : z_SS) (x2 : Int32) (x5 : Int32) (x7 : Int64) (x9 : Int64) (q : z_Sg) (hx2 : y_in x2 (2) (8)) (hq : iM W (x2, true, fun _ _ _ => True) q ∨ (¬ x5 = 3 ∧ iM (W + 8) (x2, true, fun _ _ _ => True) q)) (hW : W + 8 ≤ 16) : z_ok (k_Mo_bit_223 x2 x5 x7 x9 q) (fun o : z_Sg => iM (W + 8) z_Z o) := by
  unfold k_Mo_bit_223
  refine z_ok_i (fun c => ?_) (fun c => ?_)
  · rcases hq with h | h
    · exact z_ok_b (t_f_Mo_setE W S x2 _ q (z_w hx2 (by decide) (by decide)) h hW) (fun r hr => t_k_Mo_bit_239 W S r (iM_0 hr) hW)
    · exact absurd c h.1
  · rcases hq with h | h
    · exact t_k_Mo_bit_239 W S q (iM_0 (iM_w h (by omega))) hW
    · exact t_k_Mo_bit_239 W S q (iM_0 h.2) hW

theorem t_k_Mo_bit_203 (W : Nat) (S : z_SS) (x2 : Int32) (x5 : Int32) (x7 : Int64) (x9 : Int64) (q : z_Sg) (hx2 : y_in x2 (2) (8)) (hq : iM W (x2, true, fun _ _ _ => True) q ∨ (x5 = 1 ∧ iM (W + 8) (x2, true, fun _ _ _ => True) q)) (hW : W + 8 ≤ 16) : z_ok (k_Mo_bit_203 x2 x5 x7 x9 q) (fun o : z_Sg => iM (W + 8) z_Z o) := by
  unfold k_Mo_bit_203
  refine z_ok_i (fun c => ?_) (fun c => ?_)
  · rcases hq with h | h
    · exact z_ok_b (t_f_Mo_setE W S x2 _ q (z_w hx2 (by decide) (by decide)) h hW) (fun r hr => t_k_Mo_bit_223 W S x2 x5 x7 x9 r hx2 (Or.inr ⟨by rw [c]; decide, hr⟩) hW)
    · exact absurd (h.1.symm.trans c) (by decide)
  · rcases hq with h | h
    · exact t_k_Mo_bit_223 W S x2 x5 x7 x9 q hx2 (Or.inl h) hW
    · exact t_k_Mo_bit_223 W S x2 x5 x7 x9 q hx2 (Or.inr ⟨by rw [h.1]; decide, h.2⟩) hW

set_option maxHeartbeats 4000000 in
set_option maxRecDepth 100000 in
theorem t_k_Mo_bit_180 (W : Nat) (S : z_SS) (x2 : Int32) (x5 : Int32) (x6 : Int32) (x7 : Int64) (t1 : Int32) (t2 : Int32) (q : z_Sg) (hx2 : y_in x2 (2) (8)) (hx5 : y_in x5 (-4) (11)) (ht1 : y_in t1 (0) (0)) (ht2 : y_in t2 (0) (1)) (hq : iM W (x2, true, fun _ _ _ => True) q) (hW : W + 8 ≤ 16) : z_ok (k_Mo_bit_180 x2 x5 x6 x7 t1 t2 q) (fun o : z_Sg => iM (W + 8) z_Z o) := by
  unfold k_Mo_bit_180
  refine z_ok_g (z_nbad ht1 (by decide)) ?_
  refine z_ok_n (fun q17 e17 => ?_)
  have h17 : iM W (x2, true, fun _ _ _ => True) q17 := by rw [e17]; exact iM_sN1 hq
  refine z_ok_n (fun n18 e18 => ?_)
  refine z_ok_i (fun c => ?_) (fun c => ?_)
  · exact z_ok_b (t_f_Mo_setE W S x2 _ q17 (z_w hx2 (by decide) (by decide)) h17 hW) (fun r hr => t_k_Mo_bit_203 W S x2 x5 x7 n18 r hx2 (Or.inr ⟨c, hr⟩) hW)
  · exact t_k_Mo_bit_203 W S x2 x5 x7 n18 q17 hx2 (Or.inl h17) hW

set_option maxHeartbeats 4000000 in
set_option maxRecDepth 100000 in
theorem t_k_Mo_bit_153 (W : Nat) (S : z_SS) (x2 : Int32) (x5 : Int32) (x6 : Int32) (t1 : Int32) (t2 : Int32) (q : z_Sg) (hx2 : y_in x2 (2) (8)) (hx5 : y_in x5 (-4) (11)) (ht1 : y_in t1 (2) (8)) (ht2 : y_in t2 (0) (1)) (hq : iM W z_Z q) (hW : W + 8 ≤ 16) (hal : t1 = x2) : z_ok (k_Mo_bit_153 x2 x5 x6 t1 t2 q) (fun o : z_Sg => iM (W + 8) z_Z o) := by
  unfold k_Mo_bit_153
  refine z_ok_b (t_f_Mo_e W z_Z t1 t2 q (z_w ht1 (by decide) (by decide)) ht2 hq (by omega)) (fun r14 hr14 => ?_)
  refine z_ok_i (fun c234957 => ?_) (fun c234957 => ?_)
  · exact t_k_Mo_bit_180 W S x2 x5 x6 r14.1 (0 : Int32) (1 : Int32) r14.2 hx2 hx5 (show y_in (0 : Int32) (0) (0) from ⟨by decide, by decide⟩) (z_w (show y_in (1 : Int32) (1) (1) from ⟨by decide, by decide⟩) (by decide) (by decide)) (show iM W (x2, true, fun _ _ _ => True) r14.2 by rw [← hal]; exact hr14) hW
  · exact t_k_Mo_bit_180 W S x2 x5 x6 r14.1 (0 : Int32) (0 : Int32) r14.2 hx2 hx5 (show y_in (0 : Int32) (0) (0) from ⟨by decide, by decide⟩) (z_w (show y_in (0 : Int32) (0) (0) from ⟨by decide, by decide⟩) (by decide) (by decide)) (show iM W (x2, true, fun _ _ _ => True) r14.2 by rw [← hal]; exact hr14) hW

set_option maxHeartbeats 4000000 in
set_option maxRecDepth 100000 in
theorem t_k_Mo_bit_141 (W : Nat) (S : z_SS) (x2 : Int32) (x5 : Int32) (x6 : Int32) (q : z_Sg) (hx2 : y_in x2 (2) (8)) (hx5 : y_in x5 (-4) (11)) (hq : iM W z_Z q) (hW : W + 8 ≤ 16) : z_ok (k_Mo_bit_141 x2 x5 x6 q) (fun o : z_Sg => iM (W + 8) z_Z o) := by
  unfold k_Mo_bit_141
  refine z_ok_i (fun c234958 => ?_) (fun c234958 => ?_)
  · have z234959 : y_in x5 (0) (0) := z_w (z_eq1 c234958 (show y_in (0 : Int32) (0) (0) from ⟨by decide, by decide⟩)) (by decide) (by decide)
    exact t_k_Mo_bit_153 W S x2 x5 x6 x2 (0 : Int32) q hx2 (z_w z234959 (by decide) (by decide)) hx2 (z_w (show y_in (0 : Int32) (0) (0) from ⟨by decide, by decide⟩) (by decide) (by decide)) hq hW rfl
  · exact t_k_Mo_bit_153 W S x2 x5 x6 x2 (1 : Int32) q hx2 hx5 hx2 (z_w (show y_in (1 : Int32) (1) (1) from ⟨by decide, by decide⟩) (by decide) (by decide)) hq hW rfl

set_option maxHeartbeats 4000000 in
set_option maxRecDepth 100000 in
theorem t_k_Mo_bit_97 (W : Nat) (S : z_SS) (x1 : Int32) (x2 : Int32) (x3 : Int64) (t0 : Int32) (q : z_Sg) (hx1 : y_in x1 (163) (255)) (hx2 : y_in x2 (2) (8)) (ht0 : y_in t0 (-4) (11)) (hq : iM W z_Z q) (hW : W + 8 ≤ 16) : z_ok (k_Mo_bit_97 x1 x2 x3 t0 q) (fun o : z_Sg => iM (W + 8) z_Z o) := by
  unfold k_Mo_bit_97
  refine z_ok_b (t_f_Ma_floorModM x3 ((8 : Int64) * x2.toInt64) q (z_8n (z_w hx2 (by decide) (by decide)))) (fun r10 hr10 => ?_)
  refine z_ok_n (fun n11 en11 => ?_)
  refine z_ok_i (fun c234960 => ?_) (fun c234960 => ?_)
  · have z234961 : y_in x1 (186) (186) := z_w (z_eq1 c234960 (show y_in (186 : Int32) (186) (186) from ⟨by decide, by decide⟩)) (by decide) (by decide)
    exact t_k_Mo_bit_141 W S x2 t0 n11 q hx2 ht0 hq hW
  · refine z_ok_b (t_f_Ma_floorDivM x3 ((8 : Int64) * x2.toInt64) q (z_8n (z_w hx2 (by decide) (by decide)))) (fun r29 hr29 => ?_)
    refine z_ok_n (fun q30 eq30 => ?_)
    have hq30 : iM W z_Z q30 := by rw [eq30]; exact (iM_sL hq)
    exact t_k_Mo_bit_141 W S x2 t0 n11 q30 hx2 ht0 hq30 hW

set_option maxHeartbeats 4000000 in
set_option maxRecDepth 100000 in
theorem t_k_Mo_bit_58 (W : Nat) (S : z_SS) (x1 : Int32) (x2 : Int32) (t0 : Int64) (q : z_Sg) (hx1 : y_in x1 (163) (255)) (hx2 : y_in x2 (2) (8)) (hq : iM W z_Z q) (hW : W + 8 ≤ 16) : z_ok (k_Mo_bit_58 x1 x2 t0 q) (fun o : z_Sg => iM (W + 8) z_Z o) := by
  unfold k_Mo_bit_58
  refine z_ok_n (fun q8 eq8 => ?_)
  have hq8 : iM W z_Z q8 := by rw [eq8]; exact (iM_sL hq)
  refine z_ok_i (fun c234962 => ?_) (fun c234962 => ?_)
  · have z234963 : y_in x1 (186) (186) := z_w (z_eq1 c234962 (show y_in (186 : Int32) (186) (186) from ⟨by decide, by decide⟩)) (by decide) (by decide)
    exact t_k_Mo_bit_97 W S x1 x2 t0 ((z_gI q8 8) - (4 : Int32)) q8 (z_w z234963 (by decide) (by decide)) hx2 (z_w (z_w (a' := -4) (b' := 3) (z_sub (iM_f8 hq8) (show y_in (4 : Int32) (4) (4) from ⟨by decide, by decide⟩) (by decide) (by decide)) (by decide) (by decide)) (by decide) (by decide)) hq8 hW
  · exact t_k_Mo_bit_97 W S x1 x2 t0 ((x1 - (163 : Int32)) / (8 : Int32)) q8 hx1 hx2 (z_w (z_w (a' := 0) (b' := 11) (z_div 8 (z_w (a' := 0) (b' := 92) (z_sub hx1 (show y_in (163 : Int32) (163) (163) from ⟨by decide, by decide⟩) (by decide) (by decide)) (by decide) (by decide)) (by decide) rfl (by decide) (by decide)) (by decide) (by decide)) (by decide) (by decide)) hq8 hW

set_option maxHeartbeats 4000000 in
set_option maxRecDepth 100000 in
theorem t_k_Mo_bit_30 (W : Nat) (S : z_SS) (x1 : Int32) (x2 : Int32) (q : z_Sg) (hx1 : y_in x1 (163) (255)) (hx2 : y_in x2 (2) (8)) (hq : iM W z_Z q) (hW : W + 8 ≤ 16) : z_ok (k_Mo_bit_30 x1 x2 q) (fun o : z_Sg => iM (W + 8) z_Z o) := by
  unfold k_Mo_bit_30
  refine z_ok_b (t_f_Mo_takePlace W z_Z q hq (by omega)) (fun r4 hr4 => ?_)
  refine z_ok_i (fun c234964 => ?_) (fun c234964 => ?_)
  · have z234965 : y_in x1 (186) (186) := z_w (z_eq1 c234964 (show y_in (186 : Int32) (186) (186) from ⟨by decide, by decide⟩)) (by decide) (by decide)
    refine z_ok_b (t_f_Mo_fetch W z_Z r4 hr4 (by omega)) (fun r31 hr31 => ?_)
    exact t_k_Mo_bit_58 W S x1 x2 r31.1.toInt64 r31.2 (z_w z234965 (by decide) (by decide)) hx2 hr31.1 hW
  · refine z_ok_b (t_f_Mo_g W z_Z x2 r4 (z_w hx2 (by decide) (by decide)) hr4 (by omega)) (fun r6 hr6 => ?_)
    refine z_ok_b (t_f_Mo_extended W z_Z r6 x2 r4 (z_w hx2 (by decide) (by decide)) hr4 (by omega)) (fun r7 hr7 => ?_)
    exact t_k_Mo_bit_58 W S x1 x2 r7 r4 hx1 hx2 hr4 hW

set_option maxHeartbeats 4000000 in
set_option maxRecDepth 100000 in
theorem t_f_Mo_bit (W : Nat) (S : z_SS) (x1 : Int32) (q : z_Sg) (hx1 : y_in x1 (163) (255)) (hq : iM W S q) (hW : W + 8 ≤ 16) : z_ok (f_Mo_bit x1 q) (fun o : z_Sg => iM (W + 8) z_Z o) := by
  unfold f_Mo_bit
  refine z_ok_b (t_f_Mo_wide W S q hq (by omega)) (fun r1 hr1 => ?_)
  refine z_ok_b (t_f_Mo_takeMod W S q hq (by omega)) (fun r2 hr2 => ?_)
  refine z_ok_i (fun c234966 => ?_) (fun c234966 => ?_)
  · have z234967 : y_in x1 (186) (186) := z_w (z_eq1 c234966 (show y_in (186 : Int32) (186) (186) from ⟨by decide, by decide⟩)) (by decide) (by decide)
    refine z_ok_i (fun c234968 => ?_) (fun c234968 => ?_)
    · have z234969 : y_in (z_gI r2 8) (4) (7) := z_w (z_le2 c234968 (show y_in (4 : Int32) (4) (4) from ⟨by decide, by decide⟩) (iM_f8 hr2)) (by decide) (by decide)
      exact t_k_Mo_bit_30 W S x1 r1 r2 (z_w z234967 (by decide) (by decide)) hr1 hr2 hW
    · have z234970 : y_in (z_gI r2 8) (0) (3) := z_w (z_nle2 c234968 (show y_in (4 : Int32) (4) (4) from ⟨by decide, by decide⟩) (iM_f8 hr2)) (by decide) (by decide)
      refine z_ok_b (t_f_Mo_refuse W z_Z (6 : Int32) r2 (z_w (show y_in (6 : Int32) (6) (6) from ⟨by decide, by decide⟩) (by decide) (by decide)) hr2 (by omega)) (fun r33 hr33 => ?_)
      exact t_k_Mo_bit_30 W S x1 r1 r33 (z_w z234967 (by decide) (by decide)) hr1 hr33 hW
  · exact t_k_Mo_bit_30 W S x1 r1 r2 hx1 hr1 hr2 hW

set_option maxHeartbeats 4000000 in
set_option maxRecDepth 100000 in
theorem t_k_Mo_compareAndChange_61 (W : Nat) (S : z_SS) (q : z_Sg) (hq : iM (W + 8) z_Z q) (hW : W + 8 ≤ 16) : z_ok (k_Mo_compareAndChange_61 q) (fun o : z_Sg => iM (W + 8) z_Z o) := by
  unfold k_Mo_compareAndChange_61
  exact z_ok_s hq

set_option maxHeartbeats 4000000 in
set_option maxRecDepth 100000 in
theorem t_f_Mo_compareAndChange (W : Nat) (S : z_SS) (x1 : Int32) (q : z_Sg) (hx1 : y_in x1 (1) (8)) (hq : iM W S q) (hW : W + 8 ≤ 16) : z_ok (f_Mo_compareAndChange x1 q) (fun o : z_Sg => iM (W + 8) z_Z o) := by
  unfold f_Mo_compareAndChange
  refine z_ok_b (t_f_Mo_takeOperand W S q hq (by omega)) (fun r1 hr1 => ?_)
  refine z_ok_b (t_f_Mo_e W z_Z x1 (1 : Int32) r1 hx1 (z_w (show y_in (1 : Int32) (1) (1) from ⟨by decide, by decide⟩) (by decide) (by decide)) hr1 (by omega)) (fun r2 hr2 => ?_)
  refine z_ok_b (t_f_Mo_get8 W (x1, true, fun _ _ _ => True) (0 : Int32) x1 r2.2 (z_w (show y_in (0 : Int32) (0) (0) from ⟨by decide, by decide⟩) (by decide) (by decide)) hx1 hr2 (by omega)) (fun r3 hr3 => ?_)
  refine z_ok_b (t_f_Mo_add W (x1, true, fun _ _ _ => True) r3 r2.1 (0 : Int32) (1 : Int32) x1 r2.2 (z_w (show y_in (0 : Int32) (0) (0) from ⟨by decide, by decide⟩) (by decide) (by decide)) (z_w (show y_in (1 : Int32) (1) (1) from ⟨by decide, by decide⟩) (by decide) (by decide)) hx1 hr2 (by omega)) (fun r4 hr4 => ?_)
  refine z_ok_g (z_nbad (z_w (show y_in (3 : Int32) (3) (3) from ⟨by decide, by decide⟩) (by decide) (Int.le_refl _)) (by decide)) ?_
  refine z_ok_i (fun c234971 => ?_) (fun c234971 => ?_)
  · have z234972 : y_in (z_gN r4.2 1 (3 : Int32).toNatClampNeg) (0) (0) := z_w (z_eq1 c234971 (show y_in (0 : Int32) (0) (0) from ⟨by decide, by decide⟩)) (by decide) (by decide)
    refine z_ok_b (t_f_Mo_setE W (x1, true, fun _ _ _ => True) x1 r2.1 r4.2 hx1 hr4 (by omega)) (fun r7 hr7 => ?_)
    refine z_ok_b (t_f_Mo_put8 (W + 8) (x1, true, fun _ _ _ => True) (0 : Int32) x1 r2.1 r7 (z_w (show y_in (0 : Int32) (0) (0) from ⟨by decide, by decide⟩) (by decide) (by decide)) hx1 hr7 (by omega)) (fun r8 hr8 => ?_)
    exact t_k_Mo_compareAndChange_61 W S r8 (iM_0 hr8) hW
  · have z234973 : y_in (z_gN r4.2 1 (3 : Int32).toNatClampNeg) (1) (1) := z_w (z_ne1 c234971 (iM_n1 hr4 _) (by decide)) (by decide) (by decide)
    refine z_ok_b (t_f_Mo_g W (x1, true, fun _ _ _ => True) x1 r4.2 hx1 hr4 (by omega)) (fun r9 hr9 => ?_)
    refine z_ok_b (t_f_Mo_setE W (x1, true, fun _ _ _ => True) x1 r9 r4.2 hx1 hr4 (by omega)) (fun r10 hr10 => ?_)
    exact t_k_Mo_compareAndChange_61 W S r10 (iM_0 hr10) hW

set_option maxHeartbeats 4000000 in
set_option maxRecDepth 100000 in
theorem t_k_Mo_scan_139 (W : Nat) (S : z_SS) (q : z_Sg) (hq : iM W z_Z q) (hW : W + 0 ≤ 16) : z_ok (k_Mo_scan_139 q) (fun o : z_Sg => iM W z_Z o) := by
  unfold k_Mo_scan_139
  exact z_ok_s hq

set_option maxHeartbeats 4000000 in
set_option maxRecDepth 100000 in
theorem t_k_Mo_scan_136 (W : Nat) (S : z_SS) (t1 : Int32) (t2 : Int64) (q : z_Sg) (ht1 : y_in t1 (2) (8)) (hq : iM W z_Z q) (hW : W + 0 ≤ 16) : z_ok (k_Mo_scan_136 t1 t2 q) (fun o : z_Sg => iM W z_Z o) := by
  unfold k_Mo_scan_136
  refine z_ok_b (t_f_Mo_setG W z_Z t1 t2 q (z_w ht1 (by decide) (by decide)) hq (by omega)) (fun r12 hr12 => ?_)
  exact t_k_Mo_scan_139 W S r12 hr12 hW

set_option maxHeartbeats 4000000 in
set_option maxRecDepth 100000 in
theorem t_k_Mo_scan_108 (W : Nat) (S : z_SS) (x1 : Int32) (x4 : Int32) (x5 : Int32) (t1 : Int32) (t2 : Int32) (q : z_Sg) (hx1 : y_in x1 (188) (189)) (hx4 : y_in x4 (-1) (63)) (hx5 : y_in x5 (-1) (63)) (ht1 : y_in t1 (3) (3)) (ht2 : y_in t2 (0) (1)) (hq : iM W z_Z q) (hW : W + 0 ≤ 16) : z_ok (k_Mo_scan_108 x1 x4 x5 t1 t2 q) (fun o : z_Sg => iM W z_Z o) := by
  unfold k_Mo_scan_108
  refine z_ok_g (z_nbad (z_w ht1 (by decide) (Int.le_refl _)) (by decide)) ?_
  refine z_ok_n (fun q8 eq8 => ?_)
  have hq8 : iM W z_Z q8 := by rw [eq8]; exact (iM_sN1 hq)
  refine z_ok_i (fun c234974 => ?_) (fun c234974 => ?_)
  · have z234975 : y_in x4 (-1) (-1) := z_w (z_eq1 c234974 (show y_in (-1 : Int32) (-1) (-1) from ⟨by decide, by decide⟩)) (by decide) (by decide)
    exact t_k_Mo_scan_139 W S q8 hq8 hW
  · have z234976 : y_in x4 (0) (63) := z_w (z_ne1 c234974 hx4 (by decide)) (by decide) (by decide)
    refine z_ok_b (t_f_Mo_wide W z_Z q8 hq8 (by omega)) (fun r10 hr10 => ?_)
    refine z_ok_i (fun c234977 => ?_) (fun c234977 => ?_)
    · have z234978 : y_in x1 (188) (188) := z_w (z_eq1 c234977 (show y_in (188 : Int32) (188) (188) from ⟨by decide, by decide⟩)) (by decide) (by decide)
      exact t_k_Mo_scan_136 W S r10 x4.toInt64 q8 hr10 hq8 hW
    · have z234979 : y_in x1 (189) (189) := z_w (z_ne1 c234977 hx1 (by decide)) (by decide) (by decide)
      exact t_k_Mo_scan_136 W S r10 x5.toInt64 q8 hr10 hq8 hW

set_option maxHeartbeats 4000000 in
set_option maxRecDepth 100000 in
theorem t_k_Mo_scan_86 (W : Nat) (S : z_SS) (ih67 : Int32 × Int32 × Int32 × Int32 × z_Sg → Option z_Sg) (x1 : Int32) (x4 : Int32) (x5 : Int32) (x6 : Int32) (q : z_Sg) (hi67 : ∀ (x1' : Int32) (x4' : Int32) (x5' : Int32) (x6' : Int32) (q' : z_Sg), y_in x1' (188) (189) → y_in x4' (-1) (63) → y_in x5' (-1) (63) → y_in x6' (0) (7) → iM W z_Z q' → (7 - x6'.toInt).toNat < (7 - x6.toInt).toNat → z_ok (ih67 (x1', x4', x5', x6', q')) (fun o : z_Sg => iM W z_Z o)) (hx1 : y_in x1 (188) (189)) (hx4 : y_in x4 (-1) (63)) (hx5 : y_in x5 (-1) (63)) (hx6 : y_in x6 (0) (6)) (hq : iM W z_Z q) (hW : W + 0 ≤ 16) : z_ok (k_Mo_scan_86 ih67 x1 x4 x5 x6 q) (fun o : z_Sg => iM W z_Z o) := by
  unfold k_Mo_scan_86
  refine z_ok_n (fun n14 en14 => ?_)
  have hn14 : y_in n14 (1) (7) := z_e en14 (z_w (a' := 1) (b' := 7) (z_add hx6 (show y_in (1 : Int32) (1) (1) from ⟨by decide, by decide⟩) (by decide) (by decide)) (by decide) (by decide))
  exact hi67 x1 x4 x5 n14 q hx1 hx4 hx5 (z_w hn14 (by decide) (by decide)) hq (z_mu (7) 1 hx6 en14 (by decide) (by decide) (by decide) (by decide))

set_option maxHeartbeats 4000000 in
set_option maxRecDepth 100000 in
theorem t_kb_Mo_scan_67 (W : Nat) (S : z_SS) (ih67 : Int32 × Int32 × Int32 × Int32 × z_Sg → Option z_Sg) (x1 : Int32) (x4 : Int32) (x5 : Int32) (x6 : Int32) (q : z_Sg) (hi67 : ∀ (x1' : Int32) (x4' : Int32) (x5' : Int32) (x6' : Int32) (q' : z_Sg), y_in x1' (188) (189) → y_in x4' (-1) (63) → y_in x5' (-1) (63) → y_in x6' (0) (7) → iM W z_Z q' → (7 - x6'.toInt).toNat < (7 - x6.toInt).toNat → z_ok (ih67 (x1', x4', x5', x6', q')) (fun o : z_Sg => iM W z_Z o)) (hx1 : y_in x1 (188) (189)) (hx4 : y_in x4 (-1) (63)) (hx5 : y_in x5 (-1) (63)) (hx6 : y_in x6 (0) (7)) (hq : iM W z_Z q) (hW : W + 0 ≤ 16) : z_ok (kb_Mo_scan_67 ih67 x1 x4 x5 x6 q) (fun o : z_Sg => iM W z_Z o) := by
  unfold kb_Mo_scan_67
  refine z_ok_i (fun c234980 => ?_) (fun c234980 => ?_)
  · have z234981 : y_in x6 (7) (7) := z_w (z_le2 c234980 (show y_in (7 : Int32) (7) (7) from ⟨by decide, by decide⟩) hx6) (by decide) (by decide)
    refine z_ok_i (fun c234982 => ?_) (fun c234982 => ?_)
    · have z234983 : y_in x4 (-1) (-1) := z_w (z_eq1 c234982 (show y_in (-1 : Int32) (-1) (-1) from ⟨by decide, by decide⟩)) (by decide) (by decide)
      exact t_k_Mo_scan_108 W S x1 x4 x5 (3 : Int32) (1 : Int32) q hx1 (z_w z234983 (by decide) (by decide)) hx5 (show y_in (3 : Int32) (3) (3) from ⟨by decide, by decide⟩) (z_w (show y_in (1 : Int32) (1) (1) from ⟨by decide, by decide⟩) (by decide) (by decide)) hq hW
    · have z234984 : y_in x4 (0) (63) := z_w (z_ne1 c234982 hx4 (by decide)) (by decide) (by decide)
      exact t_k_Mo_scan_108 W S x1 x4 x5 (3 : Int32) (0 : Int32) q hx1 (z_w z234984 (by decide) (by decide)) hx5 (show y_in (3 : Int32) (3) (3) from ⟨by decide, by decide⟩) (z_w (show y_in (0 : Int32) (0) (0) from ⟨by decide, by decide⟩) (by decide) (by decide)) hq hW
  · have z234985 : y_in x6 (0) (6) := z_w (z_nle2 c234980 (show y_in (7 : Int32) (7) (7) from ⟨by decide, by decide⟩) hx6) (by decide) (by decide)
    refine z_ok_i (fun c234986 => ?_) (fun c234986 => ?_)
    · have z234987 : y_in x6 (5) (5) := z_w (z_eq1 c234986 (show y_in (5 : Int32) (5) (5) from ⟨by decide, by decide⟩)) (by decide) (by decide)
      exact t_k_Mo_scan_86 W S ih67 x1 x4 x5 x6 q hi67 hx1 hx4 hx5 (z_w z234987 (by decide) (by decide)) hq hW
    · refine z_ok_b (t_f_Mo_leave W z_Z x6 q z234985 hq (by omega)) (fun r15 hr15 => ?_)
      exact t_k_Mo_scan_86 W S ih67 x1 x4 x5 x6 r15 hi67 hx1 hx4 hx5 z234985 hr15 hW

set_option maxHeartbeats 4000000 in
set_option maxRecDepth 100000 in
theorem t_k_Mo_scan_67 (W : Nat) (S : z_SS) (x1 : Int32) (x4 : Int32) (x5 : Int32) (x6 : Int32) (q : z_Sg) (hx1 : y_in x1 (188) (189)) (hx4 : y_in x4 (-1) (63)) (hx5 : y_in x5 (-1) (63)) (hx6 : y_in x6 (0) (0)) (hq : iM W z_Z q) (hW : W + 0 ≤ 16) : z_ok (k_Mo_scan_67 x1 x4 x5 x6 q) (fun o : z_Sg => iM W z_Z o) := by
  unfold k_Mo_scan_67
  refine z_ok_l (fun a : Int32 × Int32 × Int32 × Int32 × z_Sg => y_in a.1 (188) (189) ∧ y_in a.2.1 (-1) (63) ∧ y_in a.2.2.1 (-1) (63) ∧ y_in a.2.2.2.1 (0) (7) ∧ iM W z_Z a.2.2.2.2) (fun a => (7 - a.2.2.2.1.toInt).toNat) ?_ (x1, x4, x5, x6, q) ⟨hx1, hx4, hx5, (z_w hx6 (by decide) (by decide)), hq⟩ (by show ((7 - x6.toInt).toNat) < 2000; have z1 := hx6.1; have z2 := hx6.2; omega)
  intro ih a ha hih
  exact t_kb_Mo_scan_67 W S ih a.1 a.2.1 a.2.2.1 a.2.2.2.1 a.2.2.2.2 (fun x1' x4' x5' x6' q' hx1' hx4' hx5' hx6' hq' hm => hih (x1', x4', x5', x6', q') ⟨hx1', hx4', hx5', hx6', hq'⟩ hm) ha.1 ha.2.1 ha.2.2.1 ha.2.2.2.1 ha.2.2.2.2 hW

set_option maxHeartbeats 4000000 in
set_option maxRecDepth 100000 in
theorem t_k_Mo_scan_58 (W : Nat) (S : z_SS) (ih23 : Int32 × Int64 × Int32 × Int32 × Int32 × z_Sg → Option z_Sg) (x1 : Int32) (x2 : Int64) (x4 : Int32) (x5 : Int32) (x6 : Int32) (q : z_Sg) (hi23 : ∀ (x1' : Int32) (x2' : Int64) (x4' : Int32) (x5' : Int32) (x6' : Int32) (q' : z_Sg), y_in x1' (188) (189) → y_in x4' (-1) (63) → y_in x5' (-1) (63) → y_in x6' (0) (64) → iM W z_Z q' → (64 - x6'.toInt).toNat < (64 - x6.toInt).toNat → z_ok (ih23 (x1', x2', x4', x5', x6', q')) (fun o : z_Sg => iM W z_Z o)) (hx1 : y_in x1 (188) (189)) (hx4 : y_in x4 (-1) (63)) (hx5 : y_in x5 (-1) (63)) (hx6 : y_in x6 (0) (63)) (hq : iM W z_Z q) (hW : W + 0 ≤ 16) : z_ok (k_Mo_scan_58 ih23 x1 x2 x4 x5 x6 q) (fun o : z_Sg => iM W z_Z o) := by
  unfold k_Mo_scan_58
  refine z_ok_n (fun n18 en18 => ?_)
  have hn18 : y_in n18 (1) (64) := z_e en18 (z_w (a' := 1) (b' := 64) (z_add hx6 (show y_in (1 : Int32) (1) (1) from ⟨by decide, by decide⟩) (by decide) (by decide)) (by decide) (by decide))
  exact hi23 x1 x2 x4 x5 n18 q hx1 hx4 hx5 (z_w hn18 (by decide) (by decide)) hq (z_mu (64) 1 hx6 en18 (by decide) (by decide) (by decide) (by decide))

set_option maxHeartbeats 4000000 in
set_option maxRecDepth 100000 in
theorem t_kb_Mo_scan_23 (W : Nat) (S : z_SS) (ih23 : Int32 × Int64 × Int32 × Int32 × Int32 × z_Sg → Option z_Sg) (x1 : Int32) (x2 : Int64) (x4 : Int32) (x5 : Int32) (x6 : Int32) (q : z_Sg) (hi23 : ∀ (x1' : Int32) (x2' : Int64) (x4' : Int32) (x5' : Int32) (x6' : Int32) (q' : z_Sg), y_in x1' (188) (189) → y_in x4' (-1) (63) → y_in x5' (-1) (63) → y_in x6' (0) (64) → iM W z_Z q' → (64 - x6'.toInt).toNat < (64 - x6.toInt).toNat → z_ok (ih23 (x1', x2', x4', x5', x6', q')) (fun o : z_Sg => iM W z_Z o)) (hx1 : y_in x1 (188) (189)) (hx4 : y_in x4 (-1) (63)) (hx5 : y_in x5 (-1) (63)) (hx6 : y_in x6 (0) (64)) (hq : iM W z_Z q) (hW : W + 0 ≤ 16) : z_ok (kb_Mo_scan_23 ih23 x1 x2 x4 x5 x6 q) (fun o : z_Sg => iM W z_Z o) := by
  unfold kb_Mo_scan_23
  refine z_ok_i (fun c234988 => ?_) (fun c234988 => ?_)
  · have z234989 : y_in x6 (64) (64) := z_w (z_le2 c234988 (show y_in (64 : Int32) (64) (64) from ⟨by decide, by decide⟩) hx6) (by decide) (by decide)
    exact t_k_Mo_scan_67 W S x1 x4 x5 (0 : Int32) q hx1 hx4 hx5 (show y_in (0 : Int32) (0) (0) from ⟨by decide, by decide⟩) hq hW
  · have z234990 : y_in x6 (0) (63) := z_w (z_nle2 c234988 (show y_in (64 : Int32) (64) (64) from ⟨by decide, by decide⟩) hx6) (by decide) (by decide)
    refine z_ok_i (fun c234991 => ?_) (fun c234991 => ?_)
    · exact t_k_Mo_scan_58 W S ih23 x1 x2 x4 x5 x6 q hi23 hx1 hx4 hx5 z234990 hq hW
    · refine z_ok_i (fun c234992 => ?_) (fun c234992 => ?_)
      · have z234993 : y_in x4 (-1) (-1) := z_w (z_eq1 c234992 (show y_in (-1 : Int32) (-1) (-1) from ⟨by decide, by decide⟩)) (by decide) (by decide)
        exact t_k_Mo_scan_58 W S ih23 x1 x2 x6 x6 x6 q hi23 hx1 (z_w z234990 (by decide) (by decide)) (z_w z234990 (by decide) (by decide)) z234990 hq hW
      · have z234994 : y_in x4 (0) (63) := z_w (z_ne1 c234992 hx4 (by decide)) (by decide) (by decide)
        exact t_k_Mo_scan_58 W S ih23 x1 x2 x4 x6 x6 q hi23 hx1 (z_w z234994 (by decide) (by decide)) (z_w z234990 (by decide) (by decide)) z234990 hq hW

set_option maxHeartbeats 4000000 in
set_option maxRecDepth 100000 in
theorem t_k_Mo_scan_23 (W : Nat) (S : z_SS) (x1 : Int32) (x2 : Int64) (x4 : Int32) (x5 : Int32) (x6 : Int32) (q : z_Sg) (hx1 : y_in x1 (188) (189)) (hx4 : y_in x4 (-1) (-1)) (hx5 : y_in x5 (-1) (-1)) (hx6 : y_in x6 (0) (0)) (hq : iM W z_Z q) (hW : W + 0 ≤ 16) : z_ok (k_Mo_scan_23 x1 x2 x4 x5 x6 q) (fun o : z_Sg => iM W z_Z o) := by
  unfold k_Mo_scan_23
  refine z_ok_l (fun a : Int32 × Int64 × Int32 × Int32 × Int32 × z_Sg => y_in a.1 (188) (189) ∧ y_in a.2.2.1 (-1) (63) ∧ y_in a.2.2.2.1 (-1) (63) ∧ y_in a.2.2.2.2.1 (0) (64) ∧ iM W z_Z a.2.2.2.2.2) (fun a => (64 - a.2.2.2.2.1.toInt).toNat) ?_ (x1, x2, x4, x5, x6, q) ⟨hx1, (z_w hx4 (by decide) (by decide)), (z_w hx5 (by decide) (by decide)), (z_w hx6 (by decide) (by decide)), hq⟩ (by show ((64 - x6.toInt).toNat) < 2000; have z1 := hx6.1; have z2 := hx6.2; omega)
  intro ih a ha hih
  exact t_kb_Mo_scan_23 W S ih a.1 a.2.1 a.2.2.1 a.2.2.2.1 a.2.2.2.2.1 a.2.2.2.2.2 (fun x1' x2' x4' x5' x6' q' hx1' hx4' hx5' hx6' hq' hm => hih (x1', x2', x4', x5', x6', q') ⟨hx1', hx4', hx5', hx6', hq'⟩ hm) ha.1 ha.2.1 ha.2.2.1 ha.2.2.2.1 ha.2.2.2.2 hW

set_option maxHeartbeats 4000000 in
set_option maxRecDepth 100000 in
theorem t_f_Mo_scan (W : Nat) (S : z_SS) (x1 : Int32) (q : z_Sg) (hx1 : y_in x1 (188) (189)) (hq : iM W S q) (hW : W + 0 ≤ 16) : z_ok (f_Mo_scan x1 q) (fun o : z_Sg => iM W z_Z o) := by
  unfold f_Mo_scan
  refine z_ok_b (t_f_Mo_takeOperand W S q hq (by omega)) (fun r1 hr1 => ?_)
  refine z_ok_b (t_f_Mo_wide W z_Z r1 hr1 (by omega)) (fun r2 hr2 => ?_)
  refine z_ok_b (t_f_Mo_e W z_Z r2 (0 : Int32) r1 (z_w hr2 (by decide) (by decide)) (z_w (show y_in (0 : Int32) (0) (0) from ⟨by decide, by decide⟩) (by decide) (by decide)) hr1 (by omega)) (fun r3 hr3 => ?_)
  exact t_k_Mo_scan_23 W S x1 r3.1 (-1 : Int32) (-1 : Int32) (0 : Int32) r3.2 hx1 (show y_in (-1 : Int32) (-1) (-1) from ⟨by decide, by decide⟩) (show y_in (-1 : Int32) (-1) (-1) from ⟨by decide, by decide⟩) (show y_in (0 : Int32) (0) (0) from ⟨by decide, by decide⟩) (iM_0 hr3) hW

set_option maxHeartbeats 4000000 in
set_option maxRecDepth 100000 in
theorem t_f_Mo_addAndChange (W : Nat) (S : z_SS) (x1 : Int32) (q : z_Sg) (hx1 : y_in x1 (1) (8)) (hq : iM W S q) (hW : W + 8 ≤ 16) : z_ok (f_Mo_addAndChange x1 q) (fun o : z_Sg => iM (W + 8) z_Z o) := by
  unfold f_Mo_addAndChange
  refine z_ok_b (t_f_Mo_takeOperand W S q hq (by omega)) (fun r1 hr1 => ?_)
  refine z_ok_b (t_f_Mo_e W z_Z x1 (1 : Int32) r1 hx1 (z_w (show y_in (1 : Int32) (1) (1) from ⟨by decide, by decide⟩) (by decide) (by decide)) hr1 (by omega)) (fun r2 hr2 => ?_)
  refine z_ok_b (t_f_Mo_g W (x1, true, fun _ _ _ => True) x1 r2.2 hx1 hr2 (by omega)) (fun r3 hr3 => ?_)
  refine z_ok_b (t_f_Mo_add W (x1, true, fun _ _ _ => True) r2.1 r3 (0 : Int32) (0 : Int32) x1 r2.2 (z_w (show y_in (0 : Int32) (0) (0) from ⟨by decide, by decide⟩) (by decide) (by decide)) (z_w (show y_in (0 : Int32) (0) (0) from ⟨by decide, by decide⟩) (by decide) (by decide)) hx1 hr2 (by omega)) (fun r4 hr4 => ?_)
  refine z_ok_b (t_f_Mo_setG W (x1, true, fun _ _ _ => True) x1 r2.1 r4.2 hx1 hr4 (by omega)) (fun r5 hr5 => ?_)
  refine z_ok_b (t_f_Mo_setE W (x1, true, fun _ _ _ => True) x1 r4.1 r5 hx1 hr5 (by omega)) (fun r6 hr6 => ?_)
  exact z_ok_s (iM_0 hr6)

set_option maxHeartbeats 4000000 in
set_option maxRecDepth 100000 in
theorem t_kb_Mo_turnRound_22 (W : Nat) (S : z_SS) (ih22 : Int32 × Int32 × Int64 × Int32 × z_Sg → Option z_Sg) (x1 : Int32) (x2 : Int32) (x3 : Int64) (x5 : Int32) (q : z_Sg) (hi22 : ∀ (x1' : Int32) (x2' : Int32) (x3' : Int64) (x5' : Int32) (q' : z_Sg), y_in x1' (0) (15) → y_in x2' (3) (8) → y_in x5' (0) (8) → iM W S q' → (8 - x5'.toInt).toNat < (8 - x5.toInt).toNat → z_ok (ih22 (x1', x2', x3', x5', q')) (fun o : z_Sg => iM W S o)) (hx1 : y_in x1 (0) (15)) (hx2 : y_in x2 (3) (8)) (hx5 : y_in x5 (0) (8)) (hq : iM W S q) (hW : W + 0 ≤ 16) : z_ok (kb_Mo_turnRound_22 ih22 x1 x2 x3 x5 q) (fun o : z_Sg => iM W S o) := by
  unfold kb_Mo_turnRound_22
  refine z_ok_i (fun c234995 => ?_) (fun c234995 => ?_)
  · have z234996 : y_in x5 (3) (8) := z_w (z_le2 c234995 hx2 hx5) (by decide) (by decide)
    refine z_ok_b (t_f_Mo_put8 W S x1 x2 x3 q hx1 (z_w hx2 (by decide) (by decide)) hq (by omega)) (fun r4 hr4 => ?_)
    exact z_ok_s hr4
  · have z234997 : y_in x5 (0) (7) := z_w (z_nle2 c234995 hx2 hx5) (by decide) (by decide)
    refine z_ok_g (z_nbad hx1 (by decide)) ?_
    refine z_ok_n (fun n6 en6 => ?_)
    refine z_ok_n (fun n7 en7 => ?_)
    have hn7 : y_in n7 (1) (8) := z_e en7 (z_w (a' := 1) (b' := 8) (z_add z234997 (show y_in (1 : Int32) (1) (1) from ⟨by decide, by decide⟩) (by decide) (by decide)) (by decide) (by decide))
    exact hi22 x1 x2 n6 n7 q hx1 hx2 (z_w hn7 (by decide) (by decide)) hq (z_mu (8) 1 z234997 en7 (by decide) (by decide) (by decide) (by decide))

set_option maxHeartbeats 4000000 in
set_option maxRecDepth 100000 in
theorem t_k_Mo_turnRound_22 (W : Nat) (S : z_SS) (x1 : Int32) (x2 : Int32) (x3 : Int64) (x5 : Int32) (q : z_Sg) (hx1 : y_in x1 (0) (15)) (hx2 : y_in x2 (3) (8)) (hx3 : y_il x3 (0) (0)) (hx5 : y_in x5 (0) (0)) (hq : iM W S q) (hW : W + 0 ≤ 16) : z_ok (k_Mo_turnRound_22 x1 x2 x3 x5 q) (fun o : z_Sg => iM W S o) := by
  unfold k_Mo_turnRound_22
  refine z_ok_l (fun a : Int32 × Int32 × Int64 × Int32 × z_Sg => y_in a.1 (0) (15) ∧ y_in a.2.1 (3) (8) ∧ y_in a.2.2.2.1 (0) (8) ∧ iM W S a.2.2.2.2) (fun a => (8 - a.2.2.2.1.toInt).toNat) ?_ (x1, x2, x3, x5, q) ⟨hx1, hx2, (z_w hx5 (by decide) (by decide)), hq⟩ (by show ((8 - x5.toInt).toNat) < 2000; have z1 := hx5.1; have z2 := hx5.2; omega)
  intro ih a ha hih
  exact t_kb_Mo_turnRound_22 W S ih a.1 a.2.1 a.2.2.1 a.2.2.2.1 a.2.2.2.2 (fun x1' x2' x3' x5' q' hx1' hx2' hx5' hq' hm => hih (x1', x2', x3', x5', q') ⟨hx1', hx2', hx5', hq'⟩ hm) ha.1 ha.2.1 ha.2.2.1 ha.2.2.2 hW

set_option maxHeartbeats 4000000 in
set_option maxRecDepth 100000 in
theorem t_f_Mo_turnRound (W : Nat) (S : z_SS) (x1 : Int32) (q : z_Sg) (hx1 : y_in x1 (0) (15)) (hq : iM W S q) (hW : W + 0 ≤ 16) : z_ok (f_Mo_turnRound x1 q) (fun o : z_Sg => iM W S o) := by
  unfold f_Mo_turnRound
  refine z_ok_b (t_f_Mo_wide W S q hq (by omega)) (fun r1 hr1 => ?_)
  refine z_ok_i (fun c234998 => ?_) (fun c234998 => ?_)
  · have z234999 : y_in r1 (2) (2) := z_w (z_eq1 c234998 (show y_in (2 : Int32) (2) (2) from ⟨by decide, by decide⟩)) (by decide) (by decide)
    refine z_ok_b (t_f_Mo_refuse W S (6 : Int32) q (z_w (show y_in (6 : Int32) (6) (6) from ⟨by decide, by decide⟩) (by decide) (by decide)) hq (by omega)) (fun r8 hr8 => ?_)
    exact z_ok_s hr8
  · have z235000 : y_in r1 (3) (8) := z_w (z_ne1 c234998 hr1 (by decide)) (by decide) (by decide)
    exact t_k_Mo_turnRound_22 W S x1 r1 (0 : Int64) (0 : Int32) q hx1 z235000 (show y_il (0 : Int64) (0) (0) from ⟨by decide, by decide⟩) (show y_in (0 : Int32) (0) (0) from ⟨by decide, by decide⟩) hq hW

set_option maxHeartbeats 4000000 in
set_option maxRecDepth 100000 in
theorem t_k_Mo_second_402 (W : Nat) (S : z_SS) (q : z_Sg) (hq : iM (W + 8) z_Z q) (hW : W + 8 ≤ 16) : z_ok (k_Mo_second_402 q) (fun o : z_Sg => iM (W + 8) z_Z o) := by
  unfold k_Mo_second_402
  exact z_ok_s hq

set_option maxHeartbeats 4000000 in
set_option maxRecDepth 100000 in
theorem t_k_Mo_second_183 (W : Nat) (S : z_SS) (t1 : Int32) (q : z_Sg) (ht1 : y_in t1 (0) (1)) (hq : iM W S q) (hW : W + 8 ≤ 16) : z_ok (k_Mo_second_183 t1 q) (fun o : z_Sg => iM (W + 8) z_Z o) := by
  unfold k_Mo_second_183
  refine z_ok_b (t_f_Mo_system W S t1 q ht1 hq (by omega)) (fun r7 hr7 => ?_)
  exact t_k_Mo_second_402 W S r7 (iM_w (iM_0 hr7) (by omega)) hW

set_option maxHeartbeats 4000000 in
set_option maxRecDepth 100000 in
theorem t_k_Mo_second_172 (W : Nat) (S : z_SS) (x1 : Int32) (q : z_Sg) (hx1 : y_in x1 (5) (7)) (hq : iM W S q) (hW : W + 8 ≤ 16) : z_ok (k_Mo_second_172 x1 q) (fun o : z_Sg => iM (W + 8) z_Z o) := by
  unfold k_Mo_second_172
  refine z_ok_i (fun c235001 => ?_) (fun c235001 => ?_)
  · have z235002 : y_in x1 (5) (5) := z_w (z_eq1 c235001 (show y_in (5 : Int32) (5) (5) from ⟨by decide, by decide⟩)) (by decide) (by decide)
    exact t_k_Mo_second_183 W S (1 : Int32) q (z_w (show y_in (1 : Int32) (1) (1) from ⟨by decide, by decide⟩) (by decide) (by decide)) hq hW
  · have z235003 : y_in x1 (6) (7) := z_w (z_ne1 c235001 hx1 (by decide)) (by decide) (by decide)
    exact t_k_Mo_second_183 W S (0 : Int32) q (z_w (show y_in (0 : Int32) (0) (0) from ⟨by decide, by decide⟩) (by decide) (by decide)) hq hW

set_option maxHeartbeats 4000000 in
set_option maxRecDepth 100000 in
theorem t_k_Mo_second_224 (W : Nat) (S : z_SS) (x1 : Int32) (q : z_Sg) (hx1 : y_in x1 (163) (255)) (hq : iM W S q) (hW : W + 8 ≤ 16) : z_ok (k_Mo_second_224 x1 q) (fun o : z_Sg => iM (W + 8) z_Z o) := by
  unfold k_Mo_second_224
  refine z_ok_b (t_f_Mo_bit W S x1 q hx1 hq (by omega)) (fun r10 hr10 => ?_)
  exact t_k_Mo_second_402 W S r10 hr10 hW

set_option maxHeartbeats 4000000 in
set_option maxRecDepth 100000 in
theorem t_k_Mo_second_261 (W : Nat) (S : z_SS) (x2 : Int32) (q : z_Sg) (hx2 : y_in x2 (1) (8)) (hq : iM W S q) (hW : W + 8 ≤ 16) : z_ok (k_Mo_second_261 x2 q) (fun o : z_Sg => iM (W + 8) z_Z o) := by
  unfold k_Mo_second_261
  refine z_ok_b (t_f_Mo_compareAndChange W S x2 q hx2 hq (by omega)) (fun r17 hr17 => ?_)
  exact t_k_Mo_second_402 W S r17 hr17 hW

set_option maxHeartbeats 4000000 in
set_option maxRecDepth 100000 in
theorem t_k_Mo_second_305 (W : Nat) (S : z_SS) (t1 : Int32) (t3 : Int32) (q : z_Sg) (ht1 : y_in t1 (2) (8)) (ht3 : y_in t3 (1) (2)) (hq : iM W z_Z q) (hW : W + 8 ≤ 16) : z_ok (k_Mo_second_305 t1 t3 q) (fun o : z_Sg => iM (W + 8) z_Z o) := by
  unfold k_Mo_second_305
  refine z_ok_b (t_f_Mo_e W z_Z t3 (0 : Int32) q (z_w ht3 (by decide) (by decide)) (z_w (show y_in (0 : Int32) (0) (0) from ⟨by decide, by decide⟩) (by decide) (by decide)) hq (by omega)) (fun r23 hr23 => ?_)
  refine z_ok_b (t_f_Mo_setG W (t3, true, fun _ _ _ => True) t1 r23.1 r23.2 (z_w ht1 (by decide) (by decide)) hr23 (by omega)) (fun r24 hr24 => ?_)
  exact t_k_Mo_second_402 W S r24 (iM_w (iM_0 hr24) (by omega)) hW

set_option maxHeartbeats 4000000 in
set_option maxRecDepth 100000 in
theorem t_k_Mo_second_283 (W : Nat) (S : z_SS) (x1 : Int32) (q : z_Sg) (hx1 : y_in x1 (182) (183)) (hq : iM W S q) (hW : W + 8 ≤ 16) : z_ok (k_Mo_second_283 x1 q) (fun o : z_Sg => iM (W + 8) z_Z o) := by
  unfold k_Mo_second_283
  refine z_ok_b (t_f_Mo_takeOperand W S q hq (by omega)) (fun r20 hr20 => ?_)
  refine z_ok_b (t_f_Mo_wide W z_Z r20 hr20 (by omega)) (fun r21 hr21 => ?_)
  refine z_ok_i (fun c235004 => ?_) (fun c235004 => ?_)
  · have z235005 : y_in x1 (182) (182) := z_w (z_eq1 c235004 (show y_in (182 : Int32) (182) (182) from ⟨by decide, by decide⟩)) (by decide) (by decide)
    exact t_k_Mo_second_305 W S r21 (1 : Int32) r20 hr21 (z_w (show y_in (1 : Int32) (1) (1) from ⟨by decide, by decide⟩) (by decide) (by decide)) hr20 hW
  · have z235006 : y_in x1 (183) (183) := z_w (z_ne1 c235004 hx1 (by decide)) (by decide) (by decide)
    exact t_k_Mo_second_305 W S r21 (2 : Int32) r20 hr21 (z_w (show y_in (2 : Int32) (2) (2) from ⟨by decide, by decide⟩) (by decide) (by decide)) hr20 hW

set_option maxHeartbeats 4000000 in
set_option maxRecDepth 100000 in
theorem t_k_Mo_second_346 (W : Nat) (S : z_SS) (t1 : Int32) (t2 : Int32) (q : z_Sg) (ht1 : y_in t1 (2) (8)) (ht2 : y_in t2 (1) (2)) (hq : iM W S q) (hW : W + 8 ≤ 16) : z_ok (k_Mo_second_346 t1 t2 q) (fun o : z_Sg => iM (W + 8) z_Z o) := by
  unfold k_Mo_second_346
  refine z_ok_b (t_f_Mo_extend W S t1 t2 q ht1 (z_w ht2 (by decide) (by decide)) hq (by omega)) (fun r29 hr29 => ?_)
  exact t_k_Mo_second_402 W S r29 (iM_w hr29 (by omega)) hW

set_option maxHeartbeats 4000000 in
set_option maxRecDepth 100000 in
theorem t_k_Mo_second_329 (W : Nat) (S : z_SS) (x1 : Int32) (q : z_Sg) (hx1 : y_in x1 (190) (191)) (hq : iM W S q) (hW : W + 8 ≤ 16) : z_ok (k_Mo_second_329 x1 q) (fun o : z_Sg => iM (W + 8) z_Z o) := by
  unfold k_Mo_second_329
  refine z_ok_b (t_f_Mo_wide W S q hq (by omega)) (fun r27 hr27 => ?_)
  refine z_ok_i (fun c235007 => ?_) (fun c235007 => ?_)
  · have z235008 : y_in x1 (190) (190) := z_w (z_eq1 c235007 (show y_in (190 : Int32) (190) (190) from ⟨by decide, by decide⟩)) (by decide) (by decide)
    exact t_k_Mo_second_346 W S r27 (1 : Int32) q hr27 (z_w (show y_in (1 : Int32) (1) (1) from ⟨by decide, by decide⟩) (by decide) (by decide)) hq hW
  · have z235009 : y_in x1 (191) (191) := z_w (z_ne1 c235007 hx1 (by decide)) (by decide) (by decide)
    exact t_k_Mo_second_346 W S r27 (2 : Int32) q hr27 (z_w (show y_in (2 : Int32) (2) (2) from ⟨by decide, by decide⟩) (by decide) (by decide)) hq hW

set_option maxHeartbeats 4000000 in
set_option maxRecDepth 100000 in
theorem t_k_Mo_second_366 (W : Nat) (S : z_SS) (x1 : Int32) (q : z_Sg) (hx1 : y_in x1 (188) (189)) (hq : iM W S q) (hW : W + 8 ≤ 16) : z_ok (k_Mo_second_366 x1 q) (fun o : z_Sg => iM (W + 8) z_Z o) := by
  unfold k_Mo_second_366
  refine z_ok_b (t_f_Mo_scan W S x1 q hx1 hq (by omega)) (fun r32 hr32 => ?_)
  exact t_k_Mo_second_402 W S r32 (iM_w hr32 (by omega)) hW

set_option maxHeartbeats 4000000 in
set_option maxRecDepth 100000 in
theorem t_k_Mo_second_388 (W : Nat) (S : z_SS) (x2 : Int32) (q : z_Sg) (hx2 : y_in x2 (1) (8)) (hq : iM W S q) (hW : W + 8 ≤ 16) : z_ok (k_Mo_second_388 x2 q) (fun o : z_Sg => iM (W + 8) z_Z o) := by
  unfold k_Mo_second_388
  refine z_ok_b (t_f_Mo_addAndChange W S x2 q hx2 hq (by omega)) (fun r35 hr35 => ?_)
  exact t_k_Mo_second_402 W S r35 hr35 hW

set_option maxHeartbeats 4000000 in
set_option maxRecDepth 100000 in
theorem t_k_Mo_second_161 (W : Nat) (S : z_SS) (x1 : Int32) (x2 : Int32) (q : z_Sg) (hx1 : y_in x1 (0) (255)) (hx2 : y_in x2 (1) (8)) (hq : iM W S q) (hW : W + 8 ≤ 16) : z_ok (k_Mo_second_161 x1 x2 q) (fun o : z_Sg => iM (W + 8) z_Z o) := by
  unfold k_Mo_second_161
  refine z_ok_i (fun c235010 => ?_) (fun c235010 => ?_)
  · have z235011 : y_in x1 (5) (5) := z_w (z_eq1 c235010 (show y_in (5 : Int32) (5) (5) from ⟨by decide, by decide⟩)) (by decide) (by decide)
    exact t_k_Mo_second_172 W S x1 q (z_w z235011 (by decide) (by decide)) hq hW
  · refine z_ok_i (fun c235012 => ?_) (fun c235012 => ?_)
    · have z235013 : y_in x1 (7) (7) := z_w (z_eq1 c235012 (show y_in (7 : Int32) (7) (7) from ⟨by decide, by decide⟩)) (by decide) (by decide)
      exact t_k_Mo_second_172 W S x1 q (z_w z235013 (by decide) (by decide)) hq hW
    · refine z_ok_i (fun c235014 => ?_) (fun c235014 => ?_)
      · have z235015 : y_in x1 (163) (163) := z_w (z_eq1 c235014 (show y_in (163 : Int32) (163) (163) from ⟨by decide, by decide⟩)) (by decide) (by decide)
        exact t_k_Mo_second_224 W S x1 q (z_w z235015 (by decide) (by decide)) hq hW
      · refine z_ok_i (fun c235016 => ?_) (fun c235016 => ?_)
        · have z235017 : y_in x1 (171) (171) := z_w (z_eq1 c235016 (show y_in (171 : Int32) (171) (171) from ⟨by decide, by decide⟩)) (by decide) (by decide)
          exact t_k_Mo_second_224 W S x1 q (z_w z235017 (by decide) (by decide)) hq hW
        · refine z_ok_i (fun c235018 => ?_) (fun c235018 => ?_)
          · have z235019 : y_in x1 (179) (179) := z_w (z_eq1 c235018 (show y_in (179 : Int32) (179) (179) from ⟨by decide, by decide⟩)) (by decide) (by decide)
            exact t_k_Mo_second_224 W S x1 q (z_w z235019 (by decide) (by decide)) hq hW
          · refine z_ok_i (fun c235020 => ?_) (fun c235020 => ?_)
            · have z235021 : y_in x1 (187) (187) := z_w (z_eq1 c235020 (show y_in (187 : Int32) (187) (187) from ⟨by decide, by decide⟩)) (by decide) (by decide)
              exact t_k_Mo_second_224 W S x1 q (z_w z235021 (by decide) (by decide)) hq hW
            · refine z_ok_i (fun c235022 => ?_) (fun c235022 => ?_)
              · have z235023 : y_in x1 (186) (186) := z_w (z_eq1 c235022 (show y_in (186 : Int32) (186) (186) from ⟨by decide, by decide⟩)) (by decide) (by decide)
                exact t_k_Mo_second_224 W S x1 q (z_w z235023 (by decide) (by decide)) hq hW
              · refine z_ok_i (fun c235024 => ?_) (fun c235024 => ?_)
                · have z235025 : y_in x1 (175) (175) := z_w (z_eq1 c235024 (show y_in (175 : Int32) (175) (175) from ⟨by decide, by decide⟩)) (by decide) (by decide)
                  refine z_ok_b (t_f_Mo_product W S x1 q (z_w z235025 (by decide) (by decide)) hq (by omega)) (fun r38 hr38 => ?_)
                  exact t_k_Mo_second_402 W S r38 (iM_w hr38 (by omega)) hW
                · refine z_ok_i (fun c235026 => ?_) (fun c235026 => ?_)
                  · have z235027 : y_in x1 (176) (176) := z_w (z_eq1 c235026 (show y_in (176 : Int32) (176) (176) from ⟨by decide, by decide⟩)) (by decide) (by decide)
                    exact t_k_Mo_second_261 W S x2 q hx2 hq hW
                  · refine z_ok_i (fun c235028 => ?_) (fun c235028 => ?_)
                    · have z235029 : y_in x1 (177) (177) := z_w (z_eq1 c235028 (show y_in (177 : Int32) (177) (177) from ⟨by decide, by decide⟩)) (by decide) (by decide)
                      exact t_k_Mo_second_261 W S x2 q hx2 hq hW
                    · refine z_ok_i (fun c235030 => ?_) (fun c235030 => ?_)
                      · have z235031 : y_in x1 (182) (182) := z_w (z_eq1 c235030 (show y_in (182 : Int32) (182) (182) from ⟨by decide, by decide⟩)) (by decide) (by decide)
                        exact t_k_Mo_second_283 W S x1 q (z_w z235031 (by decide) (by decide)) hq hW
                      · refine z_ok_i (fun c235032 => ?_) (fun c235032 => ?_)
                        · have z235033 : y_in x1 (183) (183) := z_w (z_eq1 c235032 (show y_in (183 : Int32) (183) (183) from ⟨by decide, by decide⟩)) (by decide) (by decide)
                          exact t_k_Mo_second_283 W S x1 q (z_w z235033 (by decide) (by decide)) hq hW
                        · refine z_ok_i (fun c235034 => ?_) (fun c235034 => ?_)
                          · have z235035 : y_in x1 (190) (190) := z_w (z_eq1 c235034 (show y_in (190 : Int32) (190) (190) from ⟨by decide, by decide⟩)) (by decide) (by decide)
                            exact t_k_Mo_second_329 W S x1 q (z_w z235035 (by decide) (by decide)) hq hW
                          · refine z_ok_i (fun c235036 => ?_) (fun c235036 => ?_)
                            · have z235037 : y_in x1 (191) (191) := z_w (z_eq1 c235036 (show y_in (191 : Int32) (191) (191) from ⟨by decide, by decide⟩)) (by decide) (by decide)
                              exact t_k_Mo_second_329 W S x1 q (z_w z235037 (by decide) (by decide)) hq hW
                            · refine z_ok_i (fun c235038 => ?_) (fun c235038 => ?_)
                              · have z235039 : y_in x1 (188) (188) := z_w (z_eq1 c235038 (show y_in (188 : Int32) (188) (188) from ⟨by decide, by decide⟩)) (by decide) (by decide)
                                exact t_k_Mo_second_366 W S x1 q (z_w z235039 (by decide) (by decide)) hq hW
                              · refine z_ok_i (fun c235040 => ?_) (fun c235040 => ?_)
                                · have z235041 : y_in x1 (189) (189) := z_w (z_eq1 c235040 (show y_in (189 : Int32) (189) (189) from ⟨by decide, by decide⟩)) (by decide) (by decide)
                                  exact t_k_Mo_second_366 W S x1 q (z_w z235041 (by decide) (by decide)) hq hW
                                · refine z_ok_i (fun c235042 => ?_) (fun c235042 => ?_)
                                  · have z235043 : y_in x1 (192) (192) := z_w (z_eq1 c235042 (show y_in (192 : Int32) (192) (192) from ⟨by decide, by decide⟩)) (by decide) (by decide)
                                    exact t_k_Mo_second_388 W S x2 q hx2 hq hW
                                  · refine z_ok_i (fun c235044 => ?_) (fun c235044 => ?_)
                                    · have z235045 : y_in x1 (193) (193) := z_w (z_eq1 c235044 (show y_in (193 : Int32) (193) (193) from ⟨by decide, by decide⟩)) (by decide) (by decide)
                                      exact t_k_Mo_second_388 W S x2 q hx2 hq hW
                                    · refine z_ok_b (t_f_Mo_refuse W S (6 : Int32) q (z_w (show y_in (6 : Int32) (6) (6) from ⟨by decide, by decide⟩) (by decide) (by decide)) hq (by omega)) (fun r37 hr37 => ?_)
                                      exact t_k_Mo_second_402 W S r37 (iM_w (iM_0 hr37) (by omega)) hW

set_option maxHeartbeats 4000000 in
set_option maxRecDepth 100000 in
theorem t_k_Mo_second_130 (W : Nat) (S : z_SS) (x1 : Int32) (x2 : Int32) (q : z_Sg) (hx1 : y_in x1 (0) (255)) (hx2 : y_in x2 (1) (8)) (hq : iM W S q) (hW : W + 8 ≤ 16) : z_ok (k_Mo_second_130 x1 x2 q) (fun o : z_Sg => iM (W + 8) z_Z o) := by
  unfold k_Mo_second_130
  refine z_ok_i (fun c235046 => ?_) (fun c235046 => ?_)
  · have z235047 : y_in x1 (0) (199) := z_w (z_lt1 c235046 hx1 (show y_in (200 : Int32) (200) (200) from ⟨by decide, by decide⟩)) (by decide) (by decide)
    exact t_k_Mo_second_161 W S x1 x2 q (z_w z235047 (by decide) (by decide)) hx2 hq hW
  · have z235048 : y_in x1 (200) (255) := z_w (z_nlt1 c235046 hx1 (show y_in (200 : Int32) (200) (200) from ⟨by decide, by decide⟩)) (by decide) (by decide)
    refine z_ok_i (fun c235049 => ?_) (fun c235049 => ?_)
    · have z235050 : y_in x1 (208) (255) := z_w (z_lt2 c235049 (show y_in (207 : Int32) (207) (207) from ⟨by decide, by decide⟩) z235048) (by decide) (by decide)
      exact t_k_Mo_second_161 W S x1 x2 q (z_w z235050 (by decide) (by decide)) hx2 hq hW
    · have z235051 : y_in x1 (200) (207) := z_w (z_nlt2 c235049 (show y_in (207 : Int32) (207) (207) from ⟨by decide, by decide⟩) z235048) (by decide) (by decide)
      refine z_ok_b (t_f_Mo_plus W S (1 : Int32) q (z_w (show y_in (1 : Int32) (1) (1) from ⟨by decide, by decide⟩) (by decide) (by decide)) hq (by omega)) (fun r40 hr40 => ?_)
      refine z_ok_b (t_f_Mo_turnRound W S ((x1 - ((x1 / (8 : Int32)) * (8 : Int32))) + r40) q (z_w (a' := 0) (b' := 15) (z_add (z_w (a' := 0) (b' := 7) (z_mod 8 z235051 (by decide) rfl (by decide) (by decide)) (by decide) (by decide)) hr40 (by decide) (by decide)) (by decide) (by decide)) hq (by omega)) (fun r41 hr41 => ?_)
      exact t_k_Mo_second_402 W S r41 (iM_w (iM_0 hr41) (by omega)) hW

set_option maxHeartbeats 4000000 in
set_option maxRecDepth 100000 in
theorem t_k_Mo_second_124 (W : Nat) (S : z_SS) (t1 : Int32) (t2 : Int64) (q : z_Sg) (ht1 : y_in t1 (1) (1)) (ht2 : y_il t2 (0) (1)) (hq : iM W (t1, true, fun _ _ _ => True) q) (hW : W + 8 ≤ 16) : z_ok (k_Mo_second_124 t1 t2 q) (fun o : z_Sg => iM (W + 8) z_Z o) := by
  unfold k_Mo_second_124
  refine z_ok_b (t_f_Mo_setE W (t1, true, fun _ _ _ => True) t1 t2 q (z_w ht1 (by decide) (by decide)) hq (by omega)) (fun r47 hr47 => ?_)
  exact t_k_Mo_second_402 W S r47 (iM_0 hr47) hW

set_option maxHeartbeats 4000000 in
set_option maxRecDepth 100000 in
theorem t_k_Mo_second_84 (W : Nat) (S : z_SS) (x1 : Int32) (x2 : Int32) (q : z_Sg) (hx1 : y_in x1 (0) (255)) (hx2 : y_in x2 (1) (8)) (hq : iM W S q) (hW : W + 8 ≤ 16) : z_ok (k_Mo_second_84 x1 x2 q) (fun o : z_Sg => iM (W + 8) z_Z o) := by
  unfold k_Mo_second_84
  refine z_ok_i (fun c235052 => ?_) (fun c235052 => ?_)
  · have z235053 : y_in x1 (0) (143) := z_w (z_lt1 c235052 hx1 (show y_in (144 : Int32) (144) (144) from ⟨by decide, by decide⟩)) (by decide) (by decide)
    exact t_k_Mo_second_130 W S x1 x2 q (z_w z235053 (by decide) (by decide)) hx2 hq hW
  · have z235054 : y_in x1 (144) (255) := z_w (z_nlt1 c235052 hx1 (show y_in (144 : Int32) (144) (144) from ⟨by decide, by decide⟩)) (by decide) (by decide)
    refine z_ok_i (fun c235055 => ?_) (fun c235055 => ?_)
    · have z235056 : y_in x1 (160) (255) := z_w (z_lt2 c235055 (show y_in (159 : Int32) (159) (159) from ⟨by decide, by decide⟩) z235054) (by decide) (by decide)
      exact t_k_Mo_second_130 W S x1 x2 q (z_w z235056 (by decide) (by decide)) hx2 hq hW
    · have z235057 : y_in x1 (144) (159) := z_w (z_nlt2 c235055 (show y_in (159 : Int32) (159) (159) from ⟨by decide, by decide⟩) z235054) (by decide) (by decide)
      refine z_ok_b (t_f_Mo_takeOperand W S q hq (by omega)) (fun r43 hr43 => ?_)
      refine z_ok_b (t_f_Mo_e W z_Z (1 : Int32) (1 : Int32) r43 (z_w (show y_in (1 : Int32) (1) (1) from ⟨by decide, by decide⟩) (by decide) (by decide)) (z_w (show y_in (1 : Int32) (1) (1) from ⟨by decide, by decide⟩) (by decide) (by decide)) hr43 (by omega)) (fun r44 hr44 => ?_)
      refine z_ok_b (t_f_Mo_holds W ((1 : Int32), true, fun _ _ _ => True) x1 r44.2 (z_w z235057 (by decide) (by decide)) hr44 (by omega)) (fun r45 hr45 => ?_)
      refine z_ok_i (fun c235058 => ?_) (fun c235058 => ?_)
      · have z235059 : y_in r45 (0) (0) := z_w (z_eq1 c235058 (show y_in (0 : Int32) (0) (0) from ⟨by decide, by decide⟩)) (by decide) (by decide)
        exact t_k_Mo_second_124 W S (1 : Int32) (0 : Int64) r44.2 (show y_in (1 : Int32) (1) (1) from ⟨by decide, by decide⟩) (z_lw (show y_il (0 : Int64) (0) (0) from ⟨by decide, by decide⟩) (by decide) (by decide)) hr44 hW
      · have z235060 : y_in r45 (1) (1) := z_w (z_ne1 c235058 hr45 (by decide)) (by decide) (by decide)
        exact t_k_Mo_second_124 W S (1 : Int32) (1 : Int64) r44.2 (show y_in (1 : Int32) (1) (1) from ⟨by decide, by decide⟩) (z_lw (show y_il (1 : Int64) (1) (1) from ⟨by decide, by decide⟩) (by decide) (by decide)) hr44 hW

set_option maxHeartbeats 4000000 in
set_option maxRecDepth 100000 in
theorem t_k_Mo_second_57 (W : Nat) (S : z_SS) (x1 : Int32) (x2 : Int32) (q : z_Sg) (hx1 : y_in x1 (0) (255)) (hx2 : y_in x2 (1) (8)) (hq : iM W S q) (hW : W + 8 ≤ 16) : z_ok (k_Mo_second_57 x1 x2 q) (fun o : z_Sg => iM (W + 8) z_Z o) := by
  unfold k_Mo_second_57
  refine z_ok_i (fun c235061 => ?_) (fun c235061 => ?_)
  · have z235062 : y_in x1 (0) (127) := z_w (z_lt1 c235061 hx1 (show y_in (128 : Int32) (128) (128) from ⟨by decide, by decide⟩)) (by decide) (by decide)
    exact t_k_Mo_second_84 W S x1 x2 q (z_w z235062 (by decide) (by decide)) hx2 hq hW
  · have z235063 : y_in x1 (128) (255) := z_w (z_nlt1 c235061 hx1 (show y_in (128 : Int32) (128) (128) from ⟨by decide, by decide⟩)) (by decide) (by decide)
    refine z_ok_i (fun c235064 => ?_) (fun c235064 => ?_)
    · have z235065 : y_in x1 (144) (255) := z_w (z_lt2 c235064 (show y_in (143 : Int32) (143) (143) from ⟨by decide, by decide⟩) z235063) (by decide) (by decide)
      exact t_k_Mo_second_84 W S x1 x2 q (z_w z235065 (by decide) (by decide)) hx2 hq hW
    · have z235066 : y_in x1 (128) (143) := z_w (z_nlt2 c235064 (show y_in (143 : Int32) (143) (143) from ⟨by decide, by decide⟩) z235063) (by decide) (by decide)
      refine z_ok_b (t_f_Mo_holds W S x1 q (z_w z235066 (by decide) (by decide)) hq (by omega)) (fun r49 hr49 => ?_)
      refine z_ok_b (t_f_Mo_branch W S r49 (4 : Int32) q hr49 (z_w (show y_in (4 : Int32) (4) (4) from ⟨by decide, by decide⟩) (by decide) (by decide)) hq (by omega)) (fun r50 hr50 => ?_)
      exact t_k_Mo_second_402 W S r50 (iM_w hr50 (by omega)) hW

set_option maxHeartbeats 4000000 in
set_option maxRecDepth 100000 in
theorem t_k_Mo_second_51 (W : Nat) (S : z_SS) (t1 : Int32) (t2 : Int64) (q : z_Sg) (ht1 : y_in t1 (2) (8)) (hq : iM W z_Z q) (hW : W + 8 ≤ 16) : z_ok (k_Mo_second_51 t1 t2 q) (fun o : z_Sg => iM (W + 8) z_Z o) := by
  unfold k_Mo_second_51
  refine z_ok_b (t_f_Mo_setG W z_Z t1 t2 q (z_w ht1 (by decide) (by decide)) hq (by omega)) (fun r60 hr60 => ?_)
  exact t_k_Mo_second_402 W S r60 (iM_w hr60 (by omega)) hW

set_option maxHeartbeats 4000000 in
set_option maxRecDepth 100000 in
theorem t_f_Mo_second (W : Nat) (S : z_SS) (x1 : Int32) (x2 : Int32) (q : z_Sg) (hx1 : y_in x1 (0) (255)) (hx2 : y_in x2 (1) (8)) (hq : iM W S q) (hW : W + 8 ≤ 16) : z_ok (f_Mo_second x1 x2 q) (fun o : z_Sg => iM (W + 8) z_Z o) := by
  unfold f_Mo_second
  refine z_ok_i (fun c235067 => ?_) (fun c235067 => ?_)
  · have z235068 : y_in x1 (0) (63) := z_w (z_lt1 c235067 hx1 (show y_in (64 : Int32) (64) (64) from ⟨by decide, by decide⟩)) (by decide) (by decide)
    exact t_k_Mo_second_57 W S x1 x2 q (z_w z235068 (by decide) (by decide)) hx2 hq hW
  · have z235069 : y_in x1 (64) (255) := z_w (z_nlt1 c235067 hx1 (show y_in (64 : Int32) (64) (64) from ⟨by decide, by decide⟩)) (by decide) (by decide)
    refine z_ok_i (fun c235070 => ?_) (fun c235070 => ?_)
    · have z235071 : y_in x1 (80) (255) := z_w (z_lt2 c235070 (show y_in (79 : Int32) (79) (79) from ⟨by decide, by decide⟩) z235069) (by decide) (by decide)
      exact t_k_Mo_second_57 W S x1 x2 q (z_w z235071 (by decide) (by decide)) hx2 hq hW
    · have z235072 : y_in x1 (64) (79) := z_w (z_nlt2 c235070 (show y_in (79 : Int32) (79) (79) from ⟨by decide, by decide⟩) z235069) (by decide) (by decide)
      refine z_ok_b (t_f_Mo_takeOperand W S q hq (by omega)) (fun r52 hr52 => ?_)
      refine z_ok_b (t_f_Mo_wide W z_Z r52 hr52 (by omega)) (fun r53 hr53 => ?_)
      refine z_ok_b (t_f_Mo_e W z_Z r53 (0 : Int32) r52 (z_w hr53 (by decide) (by decide)) (z_w (show y_in (0 : Int32) (0) (0) from ⟨by decide, by decide⟩) (by decide) (by decide)) hr52 (by omega)) (fun r54 hr54 => ?_)
      refine z_ok_b (t_f_Mo_wide W (r53, true, fun _ _ _ => True) r54.2 hr54 (by omega)) (fun r55 hr55 => ?_)
      refine z_ok_b (t_f_Mo_holds W (r53, true, fun _ _ _ => True) x1 r54.2 (z_w z235072 (by decide) (by decide)) hr54 (by omega)) (fun r56 hr56 => ?_)
      refine z_ok_i (fun c235073 => ?_) (fun c235073 => ?_)
      · have z235074 : y_in r56 (0) (0) := z_w (z_eq1 c235073 (show y_in (0 : Int32) (0) (0) from ⟨by decide, by decide⟩)) (by decide) (by decide)
        refine z_ok_b (t_f_Mo_wide W (r53, true, fun _ _ _ => True) r54.2 hr54 (by omega)) (fun r58 hr58 => ?_)
        refine z_ok_b (t_f_Mo_g W (r53, true, fun _ _ _ => True) r58 r54.2 (z_w hr58 (by decide) (by decide)) hr54 (by omega)) (fun r59 hr59 => ?_)
        exact t_k_Mo_second_51 W S r55 r59 r54.2 hr55 (iM_0 hr54) hW
      · have z235075 : y_in r56 (1) (1) := z_w (z_ne1 c235073 hr56 (by decide)) (by decide) (by decide)
        exact t_k_Mo_second_51 W S r55 r54.1 r54.2 hr55 (iM_0 hr54) hW

set_option maxHeartbeats 4000000 in
set_option maxRecDepth 100000 in
theorem t_kb_Mo_step_258 (W : Nat) (S : z_SS) (ih258 : Int32 × z_Sg → Option (Int32 × z_Sg)) (x1 : Int32) (q : z_Sg) (hi258 : ∀ (x1' : Int32) (q' : z_Sg), y_in x1' (0) (7) → iM (W + 8) z_Z q' → (7 - x1'.toInt).toNat < (7 - x1.toInt).toNat → z_ok (ih258 (x1', q')) (fun o : Int32 × z_Sg => iM (W + 8) z_Z o.2 ∧ y_in o.1 (-1) (14))) (hx1 : y_in x1 (0) (7)) (hq : iM (W + 8) z_Z q) (hW : W + 8 ≤ 16) : z_ok (kb_Mo_step_258 ih258 x1 q) (fun o : Int32 × z_Sg => iM (W + 8) z_Z o.2 ∧ y_in o.1 (-1) (14)) := by
  unfold kb_Mo_step_258
  refine z_ok_i (fun c235076 => ?_) (fun c235076 => ?_)
  · have z235077 : y_in x1 (7) (7) := z_w (z_le2 c235076 (show y_in (7 : Int32) (7) (7) from ⟨by decide, by decide⟩) hx1) (by decide) (by decide)
    exact z_ok_s ⟨hq, (iM_f4 hq)⟩
  · have z235078 : y_in x1 (0) (6) := z_w (z_nle2 c235076 (show y_in (7 : Int32) (7) (7) from ⟨by decide, by decide⟩) hx1) (by decide) (by decide)
    refine z_ok_g (z_nbad z235078 (by decide)) ?_
    refine z_ok_g (z_nbad z235078 (by decide)) ?_
    refine z_ok_n (fun q17 eq17 => ?_)
    have hq17 : iM (W + 8) z_Z q17 := by rw [eq17]; exact (iM_sN1 hq)
    refine z_ok_n (fun n18 en18 => ?_)
    have hn18 : y_in n18 (1) (7) := z_e en18 (z_w (a' := 1) (b' := 7) (z_add z235078 (show y_in (1 : Int32) (1) (1) from ⟨by decide, by decide⟩) (by decide) (by decide)) (by decide) (by decide))
    exact hi258 n18 q17 (z_w hn18 (by decide) (by decide)) hq17 (z_mu (7) 1 z235078 en18 (by decide) (by decide) (by decide) (by decide))

set_option maxHeartbeats 4000000 in
set_option maxRecDepth 100000 in
theorem t_k_Mo_step_258 (W : Nat) (S : z_SS) (x1 : Int32) (q : z_Sg) (hx1 : y_in x1 (0) (0)) (hq : iM (W + 8) z_Z q) (hW : W + 8 ≤ 16) : z_ok (k_Mo_step_258 x1 q) (fun o : Int32 × z_Sg => iM (W + 8) z_Z o.2 ∧ y_in o.1 (-1) (14)) := by
  unfold k_Mo_step_258
  refine z_ok_l (fun a : Int32 × z_Sg => y_in a.1 (0) (7) ∧ iM (W + 8) z_Z a.2) (fun a => (7 - a.1.toInt).toNat) ?_ (x1, q) ⟨(z_w hx1 (by decide) (by decide)), hq⟩ (by show ((7 - x1.toInt).toNat) < 2000; have z1 := hx1.1; have z2 := hx1.2; omega)
  intro ih a ha hih
  exact t_kb_Mo_step_258 W S ih a.1 a.2 (fun x1' q' hx1' hq' hm => hih (x1', q') ⟨hx1', hq'⟩ hm) ha.1 ha.2 hW

set_option maxHeartbeats 4000000 in
set_option maxRecDepth 100000 in
theorem t_kb_Mo_step_232 (W : Nat) (S : z_SS) (ih232 : Int32 × z_Sg → Option (Int32 × z_Sg)) (x1 : Int32) (q : z_Sg) (hi232 : ∀ (x1' : Int32) (q' : z_Sg), y_in x1' (0) (16) → iM (W + 8) z_Z q' → (16 - x1'.toInt).toNat < (16 - x1.toInt).toNat → z_ok (ih232 (x1', q')) (fun o : Int32 × z_Sg => iM (W + 8) z_Z o.2 ∧ y_in o.1 (-1) (14))) (hx1 : y_in x1 (0) (16)) (hq : iM (W + 8) z_Z q) (hW : W + 8 ≤ 16) : z_ok (kb_Mo_step_232 ih232 x1 q) (fun o : Int32 × z_Sg => iM (W + 8) z_Z o.2 ∧ y_in o.1 (-1) (14)) := by
  unfold kb_Mo_step_232
  refine z_ok_i (fun c235079 => ?_) (fun c235079 => ?_)
  · have z235080 : y_in x1 (16) (16) := z_w (z_le2 c235079 (show y_in (16 : Int32) (16) (16) from ⟨by decide, by decide⟩) hx1) (by decide) (by decide)
    exact t_k_Mo_step_258 W S (0 : Int32) q (show y_in (0 : Int32) (0) (0) from ⟨by decide, by decide⟩) hq hW
  · have z235081 : y_in x1 (0) (15) := z_w (z_nle2 c235079 (show y_in (16 : Int32) (16) (16) from ⟨by decide, by decide⟩) hx1) (by decide) (by decide)
    refine z_ok_g (z_nbad z235081 (by decide)) ?_
    refine z_ok_g (z_nbad z235081 (by decide)) ?_
    refine z_ok_n (fun q21 eq21 => ?_)
    have hq21 : iM (W + 8) z_Z q21 := by rw [eq21]; exact (iM_sM0 hq)
    refine z_ok_n (fun n22 en22 => ?_)
    have hn22 : y_in n22 (1) (16) := z_e en22 (z_w (a' := 1) (b' := 16) (z_add z235081 (show y_in (1 : Int32) (1) (1) from ⟨by decide, by decide⟩) (by decide) (by decide)) (by decide) (by decide))
    exact hi232 n22 q21 (z_w hn22 (by decide) (by decide)) hq21 (z_mu (16) 1 z235081 en22 (by decide) (by decide) (by decide) (by decide))

set_option maxHeartbeats 4000000 in
set_option maxRecDepth 100000 in
theorem t_k_Mo_step_232 (W : Nat) (S : z_SS) (x1 : Int32) (q : z_Sg) (hx1 : y_in x1 (0) (0)) (hq : iM (W + 8) z_Z q) (hW : W + 8 ≤ 16) : z_ok (k_Mo_step_232 x1 q) (fun o : Int32 × z_Sg => iM (W + 8) z_Z o.2 ∧ y_in o.1 (-1) (14)) := by
  unfold k_Mo_step_232
  refine z_ok_l (fun a : Int32 × z_Sg => y_in a.1 (0) (16) ∧ iM (W + 8) z_Z a.2) (fun a => (16 - a.1.toInt).toNat) ?_ (x1, q) ⟨(z_w hx1 (by decide) (by decide)), hq⟩ (by show ((16 - x1.toInt).toNat) < 2000; have z1 := hx1.1; have z2 := hx1.2; omega)
  intro ih a ha hih
  exact t_kb_Mo_step_232 W S ih a.1 a.2 (fun x1' q' hx1' hq' hm => hih (x1', q') ⟨hx1', hq'⟩ hm) ha.1 ha.2 hW



set_option maxHeartbeats 4000000 in
set_option maxRecDepth 100000 in
theorem t_k_Mo_step_174 (W : Nat) (S : z_SS) (x1 : Int32) (q : z_Sg) (hx1 : y_in x1 (0) (0)) (hq : iM (W + 8) z_Z q) (hW : W + 8 ≤ 16) : z_ok (k_Mo_step_174 x1 q) (fun o : Int32 × z_Sg => iM (W + 8) z_Z o.2 ∧ y_in o.1 (-1) (14)) := by
  unfold k_Mo_step_174
  refine z_ok_l (fun a : Int32 × z_Sg => y_in a.1 0 16 ∧ iM (W + 8) z_Z a.2) (fun a => (16 - a.1.toInt).toNat) ?_ (x1, q) ⟨z_w hx1 (by decide) (by decide), hq⟩ (by show (16 - x1.toInt).toNat < 2000; have := hx1.1; omega)
  intro ih a ha hih
  have go : ∀ q' : z_Sg, iM (W + 8) z_Z q' → y_in a.1 0 15 → z_ok (k_Mo_step_214 ih a.1 q') (fun o : Int32 × z_Sg => iM (W + 8) z_Z o.2 ∧ y_in o.1 (-1) (14)) := by
    intro q' hq' hx
    have h1 := hx.1
    have h2 := hx.2
    have en : (a.1 + 1).toInt = a.1.toInt + 1 := by
      rw [Int32.toInt_add, show (1 : Int32).toInt = 1 from rfl]
      exact z_bmod (by omega) (by omega)
    unfold k_Mo_step_214
    refine z_ok_n (fun n27 e27 => ?_)
    subst e27
    refine hih (a.1 + 1, q') ⟨⟨by rw [en]; omega, by rw [en]; omega⟩, hq'⟩ ?_
    show (16 - (a.1 + 1).toInt).toNat < (16 - a.1.toInt).toNat
    rw [en]
    omega
  unfold kb_Mo_step_174
  refine z_ok_i (fun c1 => z_ok_s ⟨ha.2, (show y_in (-1 : Int32) (-1) 14 from ⟨by decide, by decide⟩)⟩) (fun c1 => ?_)
  have hw := (iM_wt ha.2).2
  have hlt : ¬ (z_gI a.2 5).toInt ≤ a.1.toInt := fun h => c1 (Int32.le_iff_toInt_le.mpr h)
  have hx : y_in a.1 0 15 := ⟨ha.1.1, by omega⟩
  refine z_ok_g (z_nbad hx (by decide)) ?_
  refine z_ok_i (fun c2 => go a.2 ha.2 hx) (fun c2 => ?_)
  refine z_ok_g (z_nbad hx (by decide)) (z_ok_g (z_nbad hx (by decide)) ?_)
  have hnn := iM_wa ha.2 a.1.toNatClampNeg
  obtain ⟨n, -, -, -, -, -, hb⟩ := z_ix (x := z_gM a.2 2 a.1.toNatClampNeg) (fun h => by
    have := Int64.lt_iff_toInt_lt.mp h
    rw [Int64.toInt_zero] at this
    omega) (Int64.not_le.mp c2)
  refine z_ok_g hb ?_
  exact z_ok_n (fun q31 e31 => go q31 (by rw [e31]; exact iM_sN0 ha.2) hx)

set_option maxHeartbeats 4000000 in
set_option maxRecDepth 100000 in
theorem t_k_Mo_step_156 (W : Nat) (S : z_SS) (q : z_Sg) (hq : iM (W + 8) z_Z q) (hW : W + 8 ≤ 16) : z_ok (k_Mo_step_156 q) (fun o : Int32 × z_Sg => iM (W + 8) z_Z o.2 ∧ y_in o.1 (-1) (14)) := by
  unfold k_Mo_step_156
  refine z_ok_i (fun c235082 => ?_) (fun c235082 => ?_)
  · have z235083 : y_in (z_gI q 4) (-1) (-1) := z_w (z_eq1 c235082 (show y_in (-1 : Int32) (-1) (-1) from ⟨by decide, by decide⟩)) (by decide) (by decide)
    refine z_ok_n (fun q23 eq23 => ?_)
    have hq23 : iM (W + 8) z_Z q23 := by rw [eq23]; exact (iM_sL hq)
    exact t_k_Mo_step_174 W S (0 : Int32) q23 (show y_in (0 : Int32) (0) (0) from ⟨by decide, by decide⟩) hq23 hW
  · have z235084 : y_in (z_gI q 4) (0) (14) := z_w (z_ne1 c235082 (iM_f4 hq) (by decide)) (by decide) (by decide)
    refine z_ok_G (z_bi (iM_f3 hq)) ?_
    refine z_ok_n (fun q12 eq12 => ?_)
    have hq12 : iM (W + 8) z_Z q12 := by rw [eq12]; exact (iM_sI2 hq (iM_f3 hq))
    exact t_k_Mo_step_232 W S (0 : Int32) q12 (show y_in (0 : Int32) (0) (0) from ⟨by decide, by decide⟩) hq12 hW

set_option maxHeartbeats 4000000 in
set_option maxRecDepth 100000 in
theorem t_k_Mo_step_153 (W : Nat) (S : z_SS) (t1 : Int32) (t2 : Int32) (q : z_Sg) (ht1 : y_in t1 (0) (255)) (ht2 : y_in t2 (1) (8)) (hq : iM W z_Z q) (hW : W + 8 ≤ 16) : z_ok (k_Mo_step_153 t1 t2 q) (fun o : Int32 × z_Sg => iM (W + 8) z_Z o.2 ∧ y_in o.1 (-1) (14)) := by
  unfold k_Mo_step_153
  refine z_ok_b (t_f_Mo_first W z_Z t1 t2 q ht1 ht2 hq (by omega)) (fun r35 hr35 => ?_)
  exact t_k_Mo_step_156 W S r35 hr35 hW

set_option maxHeartbeats 4000000 in
set_option maxRecDepth 100000 in
theorem t_k_Mo_step_125 (W : Nat) (S : z_SS) (t1 : Int32) (t2 : Int32) (q : z_Sg) (ht1 : y_in t1 (0) (255)) (ht2 : y_in t2 (1) (8)) (hq : iM W z_Z q) (hW : W + 8 ≤ 16) : z_ok (k_Mo_step_125 t1 t2 q) (fun o : Int32 × z_Sg => iM (W + 8) z_Z o.2 ∧ y_in o.1 (-1) (14)) := by
  unfold k_Mo_step_125
  refine z_ok_b (t_f_Mo_second W z_Z t1 t2 q ht1 ht2 hq (by omega)) (fun r38 hr38 => ?_)
  exact t_k_Mo_step_156 W S r38 hr38 hW

set_option maxHeartbeats 4000000 in
set_option maxRecDepth 100000 in
theorem t_kb_Mo_step_46 (W : Nat) (S : z_SS) (ih46 : Int32 × z_Sg → Option (Int32 × z_Sg)) (x1 : Int32) (q : z_Sg) (hi46 : ∀ (x1' : Int32) (q' : z_Sg), y_in x1' (0) (7) → iM W S q' → (7 - x1'.toInt).toNat < (7 - x1.toInt).toNat → z_ok (ih46 (x1', q')) (fun o : Int32 × z_Sg => iM (W + 8) z_Z o.2 ∧ y_in o.1 (-1) (14))) (hx1 : y_in x1 (0) (7)) (hq : iM W S q) (hW : W + 8 ≤ 16) : z_ok (kb_Mo_step_46 ih46 x1 q) (fun o : Int32 × z_Sg => iM (W + 8) z_Z o.2 ∧ y_in o.1 (-1) (14)) := by
  unfold kb_Mo_step_46
  refine z_ok_i (fun c235085 => ?_) (fun c235085 => ?_)
  · have z235086 : y_in x1 (7) (7) := z_w (z_le2 c235085 (show y_in (7 : Int32) (7) (7) from ⟨by decide, by decide⟩) hx1) (by decide) (by decide)
    refine z_ok_b (t_f_Mo_open W S q hq (by omega)) (fun r7 hr7 => ?_)
    refine z_ok_n (fun q8 eq8 => ?_)
    have hq8 : iM W z_Z q8 := by rw [eq8]; exact (iM_sL hr7)
    refine z_ok_i (fun c235087 => ?_) (fun c235087 => ?_)
    · have z235088 : y_in (z_gI q8 4) (-1) (-1) := z_w (z_eq1 c235087 (show y_in (-1 : Int32) (-1) (-1) from ⟨by decide, by decide⟩)) (by decide) (by decide)
      refine z_ok_i (fun c235089 => ?_) (fun c235089 => ?_)
      · have z235090 : y_in (z_gI q8 18) (0) (0) := z_w (z_eq1 c235089 (show y_in (0 : Int32) (0) (0) from ⟨by decide, by decide⟩)) (by decide) (by decide)
        refine z_ok_i (fun c235091 => ?_) (fun c235091 => ?_)
        · have z235092 : y_in ((z_gI q8 15) &&& (1 : Int32)) (0) (0) := z_w (z_eq1 c235091 (show y_in (0 : Int32) (0) (0) from ⟨by decide, by decide⟩)) (by decide) (by decide)
          exact t_k_Mo_step_153 W S (z_gI q8 15) (1 : Int32) q8 (iM_f15 hq8) (z_w (show y_in (1 : Int32) (1) (1) from ⟨by decide, by decide⟩) (by decide) (by decide)) hq8 hW
        · have z235093 : y_in ((z_gI q8 15) &&& (1 : Int32)) (1) (1) := z_w (z_ne1 c235091 (z_and (show y_in (1 : Int32) (1) (1) from ⟨by decide, by decide⟩) (by decide)) (by decide)) (by decide) (by decide)
          refine z_ok_b (t_f_Mo_wide W z_Z q8 hq8 (by omega)) (fun r34 hr34 => ?_)
          exact t_k_Mo_step_153 W S (z_gI q8 15) r34 q8 (iM_f15 hq8) (z_w hr34 (by decide) (by decide)) hq8 hW
      · have z235094 : y_in (z_gI q8 18) (1) (1) := z_w (z_ne1 c235089 (iM_f18 hq8) (by decide)) (by decide) (by decide)
        refine z_ok_i (fun c235095 => ?_) (fun c235095 => ?_)
        · have z235096 : y_in ((z_gI q8 15) &&& (1 : Int32)) (0) (0) := z_w (z_eq1 c235095 (show y_in (0 : Int32) (0) (0) from ⟨by decide, by decide⟩)) (by decide) (by decide)
          exact t_k_Mo_step_125 W S (z_gI q8 15) (1 : Int32) q8 (iM_f15 hq8) (z_w (show y_in (1 : Int32) (1) (1) from ⟨by decide, by decide⟩) (by decide) (by decide)) hq8 hW
        · have z235097 : y_in ((z_gI q8 15) &&& (1 : Int32)) (1) (1) := z_w (z_ne1 c235095 (z_and (show y_in (1 : Int32) (1) (1) from ⟨by decide, by decide⟩) (by decide)) (by decide)) (by decide) (by decide)
          refine z_ok_b (t_f_Mo_wide W z_Z q8 hq8 (by omega)) (fun r37 hr37 => ?_)
          exact t_k_Mo_step_125 W S (z_gI q8 15) r37 q8 (iM_f15 hq8) (z_w hr37 (by decide) (by decide)) hq8 hW
    · have z235098 : y_in (z_gI q8 4) (0) (14) := z_w (z_ne1 c235087 (iM_f4 hq8) (by decide)) (by decide) (by decide)
      exact t_k_Mo_step_156 W S q8 (iM_w hq8 (by omega)) hW
  · have z235099 : y_in x1 (0) (6) := z_w (z_nle2 c235085 (show y_in (7 : Int32) (7) (7) from ⟨by decide, by decide⟩) hx1) (by decide) (by decide)
    refine z_ok_g (z_nbad z235099 (by decide)) ?_
    refine z_ok_g (z_nbad z235099 (by decide)) ?_
    refine z_ok_n (fun q41 eq41 => ?_)
    have hq41 : iM W S q41 := by rw [eq41]; exact (iM_sN2 hq)
    refine z_ok_n (fun n42 en42 => ?_)
    have hn42 : y_in n42 (1) (7) := z_e en42 (z_w (a' := 1) (b' := 7) (z_add z235099 (show y_in (1 : Int32) (1) (1) from ⟨by decide, by decide⟩) (by decide) (by decide)) (by decide) (by decide))
    exact hi46 n42 q41 (z_w hn42 (by decide) (by decide)) hq41 (z_mu (7) 1 z235099 en42 (by decide) (by decide) (by decide) (by decide))

set_option maxHeartbeats 4000000 in
set_option maxRecDepth 100000 in
theorem t_k_Mo_step_46 (W : Nat) (S : z_SS) (x1 : Int32) (q : z_Sg) (hx1 : y_in x1 (0) (0)) (hq : iM W S q) (hW : W + 8 ≤ 16) : z_ok (k_Mo_step_46 x1 q) (fun o : Int32 × z_Sg => iM (W + 8) z_Z o.2 ∧ y_in o.1 (-1) (14)) := by
  unfold k_Mo_step_46
  refine z_ok_l (fun a : Int32 × z_Sg => y_in a.1 (0) (7) ∧ iM W S a.2) (fun a => (7 - a.1.toInt).toNat) ?_ (x1, q) ⟨(z_w hx1 (by decide) (by decide)), hq⟩ (by show ((7 - x1.toInt).toNat) < 2000; have z1 := hx1.1; have z2 := hx1.2; omega)
  intro ih a ha hih
  exact t_kb_Mo_step_46 W S ih a.1 a.2 (fun x1' q' hx1' hq' hm => hih (x1', q') ⟨hx1', hq'⟩ hm) ha.1 ha.2 hW

set_option maxHeartbeats 4000000 in
set_option maxRecDepth 100000 in
theorem t_kb_Mo_step_20 (W : Nat) (S : z_SS) (ih20 : Int32 × z_Sg → Option (Int32 × z_Sg)) (x1 : Int32) (q : z_Sg) (hi20 : ∀ (x1' : Int32) (q' : z_Sg), y_in x1' (0) (16) → iM W S q' → (16 - x1'.toInt).toNat < (16 - x1.toInt).toNat → z_ok (ih20 (x1', q')) (fun o : Int32 × z_Sg => iM (W + 8) z_Z o.2 ∧ y_in o.1 (-1) (14))) (hx1 : y_in x1 (0) (16)) (hq : iM W S q) (hW : W + 8 ≤ 16) : z_ok (kb_Mo_step_20 ih20 x1 q) (fun o : Int32 × z_Sg => iM (W + 8) z_Z o.2 ∧ y_in o.1 (-1) (14)) := by
  unfold kb_Mo_step_20
  refine z_ok_i (fun c235100 => ?_) (fun c235100 => ?_)
  · have z235101 : y_in x1 (16) (16) := z_w (z_le2 c235100 (show y_in (16 : Int32) (16) (16) from ⟨by decide, by decide⟩) hx1) (by decide) (by decide)
    exact t_k_Mo_step_46 W S (0 : Int32) q (show y_in (0 : Int32) (0) (0) from ⟨by decide, by decide⟩) hq hW
  · have z235102 : y_in x1 (0) (15) := z_w (z_nle2 c235100 (show y_in (16 : Int32) (16) (16) from ⟨by decide, by decide⟩) hx1) (by decide) (by decide)
    refine z_ok_g (z_nbad z235102 (by decide)) ?_
    refine z_ok_g (z_nbad z235102 (by decide)) ?_
    refine z_ok_n (fun q45 eq45 => ?_)
    have hq45 : iM W S q45 := by rw [eq45]; exact (iM_sM1 hq)
    refine z_ok_n (fun n46 en46 => ?_)
    have hn46 : y_in n46 (1) (16) := z_e en46 (z_w (a' := 1) (b' := 16) (z_add z235102 (show y_in (1 : Int32) (1) (1) from ⟨by decide, by decide⟩) (by decide) (by decide)) (by decide) (by decide))
    exact hi20 n46 q45 (z_w hn46 (by decide) (by decide)) hq45 (z_mu (16) 1 z235102 en46 (by decide) (by decide) (by decide) (by decide))

set_option maxHeartbeats 4000000 in
set_option maxRecDepth 100000 in
theorem t_k_Mo_step_20 (W : Nat) (S : z_SS) (x1 : Int32) (q : z_Sg) (hx1 : y_in x1 (0) (0)) (hq : iM W S q) (hW : W + 8 ≤ 16) : z_ok (k_Mo_step_20 x1 q) (fun o : Int32 × z_Sg => iM (W + 8) z_Z o.2 ∧ y_in o.1 (-1) (14)) := by
  unfold k_Mo_step_20
  refine z_ok_l (fun a : Int32 × z_Sg => y_in a.1 (0) (16) ∧ iM W S a.2) (fun a => (16 - a.1.toInt).toNat) ?_ (x1, q) ⟨(z_w hx1 (by decide) (by decide)), hq⟩ (by show ((16 - x1.toInt).toNat) < 2000; have z1 := hx1.1; have z2 := hx1.2; omega)
  intro ih a ha hih
  exact t_kb_Mo_step_20 W S ih a.1 a.2 (fun x1' q' hx1' hq' hm => hih (x1', q') ⟨hx1', hq'⟩ hm) ha.1 ha.2 hW

theorem t_f_Mo_step (q : z_Sg) (hq : iM 16 z_Z q) : z_ok (f_Mo_step q) (fun o : Int32 × z_Sg => iM 16 z_Z o.2 ∧ y_in o.1 (-1) (14)) := by
  unfold f_Mo_step
  refine z_ok_n (fun q1 e1 => ?_)
  refine z_ok_n (fun q2 e2 => ?_)
  have h2 : iM 0 z_Z q2 := by rw [e2, e1]; exact iM_new hq
  refine z_ok_G (z_bi (iM_f2 h2)) ?_
  refine z_ok_n (fun q4 e4 => ?_)
  have h4 : iM 0 z_Z q4 := by rw [e4]; exact iM_sI3 h2 (iM_f2 h2)
  exact z_ok_w (t_k_Mo_step_20 0 z_Z 0 q4 (z_w (show y_in (0 : Int32) (0) (0) from ⟨by decide, by decide⟩) (by decide) (by decide)) h4 (by omega)) (fun o ho => ⟨iM_w ho.1 (by omega), ho.2⟩)




theorem t_f_Mo_run (x1 : Int32) (q : z_Sg) (hq : iM 16 z_Z q) : z_ok (f_Mo_run x1 q) (fun o : Int32 × z_Sg => iM 16 z_Z o.2) := by
  unfold f_Mo_run k_Mo_run_11
  refine z_ok_i (fun c0 => z_ok_s hq) (fun c0 => ?_)
  refine z_ok_i (fun c1 => ?_) (fun c1 => z_ok_s hq)
  have h1 := (z_le1 c1 (z_full x1) (show y_in (1000 : Int32) (1000) (1000) from ⟨by decide, by decide⟩)).2
  have h0 := (z_nlt1 c0 (z_full x1) (show y_in (0 : Int32) (0) (0) from ⟨by decide, by decide⟩)).1
  unfold k_Mo_run_15
  refine z_ok_l (fun a : Int32 × Int32 × z_Sg => a.1 = x1 ∧ y_in a.2.1 0 1000 ∧ iM 16 z_Z a.2.2) (fun a => (1000 - a.2.1.toInt).toNat) ?_ (x1, 0, q) ⟨rfl, (show y_in (0 : Int32) 0 1000 from ⟨by decide, by decide⟩), hq⟩ (by show (1000 - (0 : Int32).toInt).toNat < 2000; decide)
  rintro ih ⟨a1, a2, a3⟩ ⟨e1, h2, h3⟩ hih
  dsimp only at e1 h2 h3 hih ⊢
  subst e1
  unfold kb_Mo_run_15
  refine z_ok_i (fun c => z_ok_s h3) (fun c => ?_)
  have hlt : ¬ a1.toInt ≤ a2.toInt := fun h => c (Int32.le_iff_toInt_le.mpr h)
  have h20 := h2.1
  have en : (a2 + 1).toInt = a2.toInt + 1 := by
    rw [Int32.toInt_add, show (1 : Int32).toInt = 1 from rfl]
    exact z_bmod (by omega) (by omega)
  refine z_ok_b (t_f_Mo_step a3 h3) (fun r4 hr4 => ?_)
  refine z_ok_i (fun c2 => ?_) (fun c2 => z_ok_s hr4.1)
  refine z_ok_n (fun n6 e6 => ?_)
  subst e6
  refine hih (a1, a2 + 1, r4.2) ⟨rfl, ⟨by rw [en]; omega, by rw [en]; omega⟩, hr4.1⟩ ?_
  show (1000 - (a2 + 1).toInt).toNat < (1000 - a2.toInt).toNat
  rw [en]
  omega

set_option maxHeartbeats 4000000 in
set_option maxRecDepth 100000 in
theorem t_k_Mo_look_67 (W : Nat) (S : z_SS) (t0 : Int64) (q : z_Sg) (hq : iM W S q) (hW : W + 0 ≤ 16) : z_ok (k_Mo_look_67 t0 q) (fun o : Int64 × z_Sg => iM W S o.2) := by
  unfold k_Mo_look_67
  exact z_ok_s hq

set_option maxHeartbeats 4000000 in
set_option maxRecDepth 100000 in
theorem t_k_Mo_look_41 (W : Nat) (S : z_SS) (t1 : Int64) (t2 : Int32) (q : z_Sg) (ht2 : y_in t2 (0) (2)) (hq : iM W S q) (hW : W + 0 ≤ 16) : z_ok (k_Mo_look_41 t1 t2 q) (fun o : Int64 × z_Sg => iM W S o.2) := by
  unfold k_Mo_look_41
  refine z_ok_b (t_f_Mo_find W S t1 t2 q ht2 hq (by omega)) (fun r6 hr6 => ?_)
  refine z_ok_i (fun c235103 => ?_) (fun c235103 => ?_)
  · exact t_k_Mo_look_67 W S r6.1 r6.2 hr6 hW
  · exact t_k_Mo_look_67 W S ((-2 : Int64) - (z_gI r6.2 1).toInt64) r6.2 hr6 hW

set_option maxHeartbeats 4000000 in
set_option maxRecDepth 100000 in
theorem t_f_Mo_look (W : Nat) (S : z_SS) (x1 : Int32) (x2 : Int32) (x3 : Int32) (q : z_Sg) (hq : iM W S q) (hW : W + 0 ≤ 16) : z_ok (f_Mo_look x1 x2 x3 q) (fun o : Int64 × z_Sg => iM W S o.2) := by
  unfold f_Mo_look
  refine z_ok_b (t_f_Mo_join W S x1 x2 q hq (by omega)) (fun r1 hr1 => ?_)
  refine z_ok_b (t_f_Mo_isWrong W S r1 q hq (by omega)) (fun r2 hr2 => ?_)
  refine z_ok_i (fun c235104 => ?_) (fun c235104 => ?_)
  · have z235105 : y_in r2 (0) (0) := z_w (z_eq1 c235104 (show y_in (0 : Int32) (0) (0) from ⟨by decide, by decide⟩)) (by decide) (by decide)
    refine z_ok_i (fun c235106 => ?_) (fun c235106 => ?_)
    · have z235107 : y_in x3 (1) (1) := z_w (z_eq1 c235106 (show y_in (1 : Int32) (1) (1) from ⟨by decide, by decide⟩)) (by decide) (by decide)
      exact t_k_Mo_look_41 W S r1 (1 : Int32) q (z_w (show y_in (1 : Int32) (1) (1) from ⟨by decide, by decide⟩) (by decide) (by decide)) hq hW
    · refine z_ok_i (fun c235108 => ?_) (fun c235108 => ?_)
      · have z235109 : y_in x3 (2) (2) := z_w (z_eq1 c235108 (show y_in (2 : Int32) (2) (2) from ⟨by decide, by decide⟩)) (by decide) (by decide)
        exact t_k_Mo_look_41 W S r1 (2 : Int32) q (z_w (show y_in (2 : Int32) (2) (2) from ⟨by decide, by decide⟩) (by decide) (by decide)) hq hW
      · exact t_k_Mo_look_41 W S r1 (0 : Int32) q (z_w (show y_in (0 : Int32) (0) (0) from ⟨by decide, by decide⟩) (by decide) (by decide)) hq hW
  · have z235110 : y_in r2 (1) (1) := z_w (z_ne1 c235104 hr2 (by decide)) (by decide) (by decide)
    exact z_ok_s hq
