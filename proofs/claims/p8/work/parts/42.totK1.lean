set_option maxHeartbeats 4000000 in
set_option maxRecDepth 100000 in
theorem t_k_Ar_holds_138 (x1 : Int32) (t0 : Int32) (q : z_Sg) (hx1 : y_in x1 (-256) (511)) (ht0 : y_in t0 (0) (1)) (hq : iK q) : z_ok (k_Ar_holds_138 x1 t0 q) (fun o : Int32 => y_in o (0) (1)) := by
  unfold k_Ar_holds_138
  exact t_k_Ar_holds_218 x1 t0 q hx1 ht0 hq

set_option maxHeartbeats 4000000 in
set_option maxRecDepth 100000 in
theorem t_k_Ar_holds_155 (x1 : Int32) (t0 : Int32) (q : z_Sg) (hx1 : y_in x1 (-256) (511)) (ht0 : y_in t0 (0) (1)) (hq : iK q) : z_ok (k_Ar_holds_155 x1 t0 q) (fun o : Int32 => y_in o (0) (1)) := by
  unfold k_Ar_holds_155
  exact t_k_Ar_holds_218 x1 t0 q hx1 ht0 hq

set_option maxHeartbeats 4000000 in
set_option maxRecDepth 100000 in
theorem t_k_Ar_holds_173 (x1 : Int32) (t0 : Int32) (q : z_Sg) (hx1 : y_in x1 (-256) (511)) (ht0 : y_in t0 (0) (1)) (hq : iK q) : z_ok (k_Ar_holds_173 x1 t0 q) (fun o : Int32 => y_in o (0) (1)) := by
  unfold k_Ar_holds_173
  exact t_k_Ar_holds_218 x1 t0 q hx1 ht0 hq

set_option maxHeartbeats 4000000 in
set_option maxRecDepth 100000 in
theorem t_k_Ar_holds_189 (x1 : Int32) (t0 : Int32) (q : z_Sg) (hx1 : y_in x1 (-256) (511)) (ht0 : y_in t0 (0) (1)) (hq : iK q) : z_ok (k_Ar_holds_189 x1 t0 q) (fun o : Int32 => y_in o (0) (1)) := by
  unfold k_Ar_holds_189
  exact t_k_Ar_holds_218 x1 t0 q hx1 ht0 hq

set_option maxHeartbeats 4000000 in
set_option maxRecDepth 100000 in
theorem t_k_Ar_holds_216 (x1 : Int32) (t0 : Int32) (q : z_Sg) (hx1 : y_in x1 (-256) (511)) (ht0 : y_in t0 (0) (1)) (hq : iK q) : z_ok (k_Ar_holds_216 x1 t0 q) (fun o : Int32 => y_in o (0) (1)) := by
  unfold k_Ar_holds_216
  exact t_k_Ar_holds_218 x1 t0 q hx1 ht0 hq

set_option maxHeartbeats 4000000 in
set_option maxRecDepth 100000 in
theorem t_k_Ar_holds_211 (x1 : Int32) (q : z_Sg) (hx1 : y_in x1 (-256) (511)) (hq : iK q) : z_ok (k_Ar_holds_211 x1 q) (fun o : Int32 => y_in o (0) (1)) := by
  unfold k_Ar_holds_211
  exact t_k_Ar_holds_216 x1 (1 : Int32) q hx1 (z_w (show y_in (1 : Int32) (1) (1) from ⟨by decide, by decide⟩) (by decide) (by decide)) hq

set_option maxHeartbeats 4000000 in
set_option maxRecDepth 100000 in
theorem t_k_Ar_holds_42 (x1 : Int32) (x2 : Int32) (t0 : Int32) (q : z_Sg) (hx1 : y_in x1 (-256) (511)) (ht0 : y_in t0 (0) (1)) (hq : iK q) : z_ok (k_Ar_holds_42 x1 x2 t0 q) (fun o : Int32 => y_in o (0) (1)) := by
  unfold k_Ar_holds_42
  refine z_ok_i (fun c61553 => ?_) (fun c61553 => ?_)
  · have z61554 : y_in ((x1 >>> ((1 : Int32) &&& 31)) &&& (7 : Int32)) (0) (0) := z_w (z_eq1 c61553 (show y_in (0 : Int32) (0) (0) from ⟨by decide, by decide⟩)) (by decide) (by decide)
    refine z_ok_i (fun c61555 => ?_) (fun c61555 => ?_)
    · have z61556 : y_in (x2 &&& (2048 : Int32)) (0) (0) := z_w (z_eq1 c61555 (show y_in (0 : Int32) (0) (0) from ⟨by decide, by decide⟩)) (by decide) (by decide)
      exact t_k_Ar_holds_105 x1 (0 : Int32) q hx1 (z_w (show y_in (0 : Int32) (0) (0) from ⟨by decide, by decide⟩) (by decide) (by decide)) hq
    · have z61557 : y_in (x2 &&& (2048 : Int32)) (1) (2048) := z_w (z_ne1 c61555 (z_and (show y_in (2048 : Int32) (2048) (2048) from ⟨by decide, by decide⟩) (by decide)) (by decide)) (by decide) (by decide)
      exact t_k_Ar_holds_105 x1 (1 : Int32) q hx1 (z_w (show y_in (1 : Int32) (1) (1) from ⟨by decide, by decide⟩) (by decide) (by decide)) hq
  · have z61558 : y_in ((x1 >>> ((1 : Int32) &&& 31)) &&& (7 : Int32)) (1) (7) := z_w (z_ne1 c61553 (z_and (show y_in (7 : Int32) (7) (7) from ⟨by decide, by decide⟩) (by decide)) (by decide)) (by decide) (by decide)
    refine z_ok_i (fun c61559 => ?_) (fun c61559 => ?_)
    · have z61560 : y_in ((x1 >>> ((1 : Int32) &&& 31)) &&& (7 : Int32)) (1) (1) := z_w (z_eq1 c61559 (show y_in (1 : Int32) (1) (1) from ⟨by decide, by decide⟩)) (by decide) (by decide)
      refine z_ok_i (fun c61561 => ?_) (fun c61561 => ?_)
      · have z61562 : y_in (x2 &&& (1 : Int32)) (0) (0) := z_w (z_eq1 c61561 (show y_in (0 : Int32) (0) (0) from ⟨by decide, by decide⟩)) (by decide) (by decide)
        exact t_k_Ar_holds_121 x1 (0 : Int32) q hx1 (z_w (show y_in (0 : Int32) (0) (0) from ⟨by decide, by decide⟩) (by decide) (by decide)) hq
      · have z61563 : y_in (x2 &&& (1 : Int32)) (1) (1) := z_w (z_ne1 c61561 (z_and (show y_in (1 : Int32) (1) (1) from ⟨by decide, by decide⟩) (by decide)) (by decide)) (by decide) (by decide)
        exact t_k_Ar_holds_121 x1 (1 : Int32) q hx1 (z_w (show y_in (1 : Int32) (1) (1) from ⟨by decide, by decide⟩) (by decide) (by decide)) hq
    · have z61564 : y_in ((x1 >>> ((1 : Int32) &&& 31)) &&& (7 : Int32)) (2) (7) := z_w (z_ne1 c61559 z61558 (by decide)) (by decide) (by decide)
      refine z_ok_i (fun c61565 => ?_) (fun c61565 => ?_)
      · have z61566 : y_in ((x1 >>> ((1 : Int32) &&& 31)) &&& (7 : Int32)) (2) (2) := z_w (z_eq1 c61565 (show y_in (2 : Int32) (2) (2) from ⟨by decide, by decide⟩)) (by decide) (by decide)
        refine z_ok_i (fun c61567 => ?_) (fun c61567 => ?_)
        · have z61568 : y_in (x2 &&& (64 : Int32)) (0) (0) := z_w (z_eq1 c61567 (show y_in (0 : Int32) (0) (0) from ⟨by decide, by decide⟩)) (by decide) (by decide)
          exact t_k_Ar_holds_138 x1 (0 : Int32) q hx1 (z_w (show y_in (0 : Int32) (0) (0) from ⟨by decide, by decide⟩) (by decide) (by decide)) hq
        · have z61569 : y_in (x2 &&& (64 : Int32)) (1) (64) := z_w (z_ne1 c61567 (z_and (show y_in (64 : Int32) (64) (64) from ⟨by decide, by decide⟩) (by decide)) (by decide)) (by decide) (by decide)
          exact t_k_Ar_holds_138 x1 (1 : Int32) q hx1 (z_w (show y_in (1 : Int32) (1) (1) from ⟨by decide, by decide⟩) (by decide) (by decide)) hq
      · have z61570 : y_in ((x1 >>> ((1 : Int32) &&& 31)) &&& (7 : Int32)) (3) (7) := z_w (z_ne1 c61565 z61564 (by decide)) (by decide) (by decide)
        refine z_ok_i (fun c61571 => ?_) (fun c61571 => ?_)
        · have z61572 : y_in ((x1 >>> ((1 : Int32) &&& 31)) &&& (7 : Int32)) (3) (3) := z_w (z_eq1 c61571 (show y_in (3 : Int32) (3) (3) from ⟨by decide, by decide⟩)) (by decide) (by decide)
          refine z_ok_i (fun c61573 => ?_) (fun c61573 => ?_)
          · have z61574 : y_in (x2 &&& (65 : Int32)) (0) (0) := z_w (z_eq1 c61573 (show y_in (0 : Int32) (0) (0) from ⟨by decide, by decide⟩)) (by decide) (by decide)
            exact t_k_Ar_holds_155 x1 (0 : Int32) q hx1 (z_w (show y_in (0 : Int32) (0) (0) from ⟨by decide, by decide⟩) (by decide) (by decide)) hq
          · have z61575 : y_in (x2 &&& (65 : Int32)) (1) (65) := z_w (z_ne1 c61573 (z_and (show y_in (65 : Int32) (65) (65) from ⟨by decide, by decide⟩) (by decide)) (by decide)) (by decide) (by decide)
            exact t_k_Ar_holds_155 x1 (1 : Int32) q hx1 (z_w (show y_in (1 : Int32) (1) (1) from ⟨by decide, by decide⟩) (by decide) (by decide)) hq
        · have z61576 : y_in ((x1 >>> ((1 : Int32) &&& 31)) &&& (7 : Int32)) (4) (7) := z_w (z_ne1 c61571 z61570 (by decide)) (by decide) (by decide)
          refine z_ok_i (fun c61577 => ?_) (fun c61577 => ?_)
          · have z61578 : y_in ((x1 >>> ((1 : Int32) &&& 31)) &&& (7 : Int32)) (4) (4) := z_w (z_eq1 c61577 (show y_in (4 : Int32) (4) (4) from ⟨by decide, by decide⟩)) (by decide) (by decide)
            refine z_ok_i (fun c61579 => ?_) (fun c61579 => ?_)
            · have z61580 : y_in (x2 &&& (128 : Int32)) (0) (0) := z_w (z_eq1 c61579 (show y_in (0 : Int32) (0) (0) from ⟨by decide, by decide⟩)) (by decide) (by decide)
              exact t_k_Ar_holds_173 x1 (0 : Int32) q hx1 (z_w (show y_in (0 : Int32) (0) (0) from ⟨by decide, by decide⟩) (by decide) (by decide)) hq
            · have z61581 : y_in (x2 &&& (128 : Int32)) (1) (128) := z_w (z_ne1 c61579 (z_and (show y_in (128 : Int32) (128) (128) from ⟨by decide, by decide⟩) (by decide)) (by decide)) (by decide) (by decide)
              exact t_k_Ar_holds_173 x1 (1 : Int32) q hx1 (z_w (show y_in (1 : Int32) (1) (1) from ⟨by decide, by decide⟩) (by decide) (by decide)) hq
          · have z61582 : y_in ((x1 >>> ((1 : Int32) &&& 31)) &&& (7 : Int32)) (5) (7) := z_w (z_ne1 c61577 z61576 (by decide)) (by decide) (by decide)
            refine z_ok_i (fun c61583 => ?_) (fun c61583 => ?_)
            · have z61584 : y_in ((x1 >>> ((1 : Int32) &&& 31)) &&& (7 : Int32)) (5) (5) := z_w (z_eq1 c61583 (show y_in (5 : Int32) (5) (5) from ⟨by decide, by decide⟩)) (by decide) (by decide)
              refine z_ok_i (fun c61585 => ?_) (fun c61585 => ?_)
              · have z61586 : y_in (x2 &&& (4 : Int32)) (0) (0) := z_w (z_eq1 c61585 (show y_in (0 : Int32) (0) (0) from ⟨by decide, by decide⟩)) (by decide) (by decide)
                exact t_k_Ar_holds_189 x1 (0 : Int32) q hx1 (z_w (show y_in (0 : Int32) (0) (0) from ⟨by decide, by decide⟩) (by decide) (by decide)) hq
              · have z61587 : y_in (x2 &&& (4 : Int32)) (1) (4) := z_w (z_ne1 c61585 (z_and (show y_in (4 : Int32) (4) (4) from ⟨by decide, by decide⟩) (by decide)) (by decide)) (by decide) (by decide)
                exact t_k_Ar_holds_189 x1 (1 : Int32) q hx1 (z_w (show y_in (1 : Int32) (1) (1) from ⟨by decide, by decide⟩) (by decide) (by decide)) hq
            · have z61588 : y_in ((x1 >>> ((1 : Int32) &&& 31)) &&& (7 : Int32)) (6) (7) := z_w (z_ne1 c61583 z61582 (by decide)) (by decide) (by decide)
              refine z_ok_i (fun c61589 => ?_) (fun c61589 => ?_)
              · have z61590 : y_in ((x1 >>> ((1 : Int32) &&& 31)) &&& (7 : Int32)) (6) (6) := z_w (z_eq1 c61589 (show y_in (6 : Int32) (6) (6) from ⟨by decide, by decide⟩)) (by decide) (by decide)
                exact t_k_Ar_holds_218 x1 t0 q hx1 ht0 hq
              · have z61591 : y_in ((x1 >>> ((1 : Int32) &&& 31)) &&& (7 : Int32)) (7) (7) := z_w (z_ne1 c61589 z61588 (by decide)) (by decide) (by decide)
                refine z_ok_i (fun c61592 => ?_) (fun c61592 => ?_)
                · have z61593 : y_in t0 (0) (0) := z_w (z_eq1 c61592 (show y_in (0 : Int32) (0) (0) from ⟨by decide, by decide⟩)) (by decide) (by decide)
                  refine z_ok_i (fun c61594 => ?_) (fun c61594 => ?_)
                  · have z61595 : y_in (x2 &&& (64 : Int32)) (0) (0) := z_w (z_eq1 c61594 (show y_in (0 : Int32) (0) (0) from ⟨by decide, by decide⟩)) (by decide) (by decide)
                    exact t_k_Ar_holds_216 x1 (0 : Int32) q hx1 (z_w (show y_in (0 : Int32) (0) (0) from ⟨by decide, by decide⟩) (by decide) (by decide)) hq
                  · have z61596 : y_in (x2 &&& (64 : Int32)) (1) (64) := z_w (z_ne1 c61594 (z_and (show y_in (64 : Int32) (64) (64) from ⟨by decide, by decide⟩) (by decide)) (by decide)) (by decide) (by decide)
                    exact t_k_Ar_holds_211 x1 q hx1 hq
                · have z61597 : y_in t0 (1) (1) := z_w (z_ne1 c61592 ht0 (by decide)) (by decide) (by decide)
                  exact t_k_Ar_holds_211 x1 q hx1 hq

set_option maxHeartbeats 4000000 in
set_option maxRecDepth 100000 in
theorem t_k_Ar_holds_34 (x1 : Int32) (x2 : Int32) (t0 : Int32) (t1 : Int32) (q : z_Sg) (hx1 : y_in x1 (-256) (511)) (ht0 : y_in t0 (0) (1)) (ht1 : y_in t1 (0) (1)) (hq : iK q) : z_ok (k_Ar_holds_34 x1 x2 t0 t1 q) (fun o : Int32 => y_in o (0) (1)) := by
  unfold k_Ar_holds_34
  refine z_ok_i (fun c61598 => ?_) (fun c61598 => ?_)
  · exact t_k_Ar_holds_42 x1 x2 (0 : Int32) q hx1 (z_w (show y_in (0 : Int32) (0) (0) from ⟨by decide, by decide⟩) (by decide) (by decide)) hq
  · exact t_k_Ar_holds_42 x1 x2 (1 : Int32) q hx1 (z_w (show y_in (1 : Int32) (1) (1) from ⟨by decide, by decide⟩) (by decide) (by decide)) hq

set_option maxHeartbeats 4000000 in
set_option maxRecDepth 100000 in
theorem t_k_Ar_holds_21 (x1 : Int32) (x2 : Int32) (t0 : Int32) (q : z_Sg) (hx1 : y_in x1 (-256) (511)) (ht0 : y_in t0 (0) (1)) (hq : iK q) : z_ok (k_Ar_holds_21 x1 x2 t0 q) (fun o : Int32 => y_in o (0) (1)) := by
  unfold k_Ar_holds_21
  refine z_ok_i (fun c61599 => ?_) (fun c61599 => ?_)
  · have z61600 : y_in (x2 &&& (2048 : Int32)) (0) (0) := z_w (z_eq1 c61599 (show y_in (0 : Int32) (0) (0) from ⟨by decide, by decide⟩)) (by decide) (by decide)
    exact t_k_Ar_holds_34 x1 x2 t0 (0 : Int32) q hx1 ht0 (z_w (show y_in (0 : Int32) (0) (0) from ⟨by decide, by decide⟩) (by decide) (by decide)) hq
  · have z61601 : y_in (x2 &&& (2048 : Int32)) (1) (2048) := z_w (z_ne1 c61599 (z_and (show y_in (2048 : Int32) (2048) (2048) from ⟨by decide, by decide⟩) (by decide)) (by decide)) (by decide) (by decide)
    exact t_k_Ar_holds_34 x1 x2 t0 (1 : Int32) q hx1 ht0 (z_w (show y_in (1 : Int32) (1) (1) from ⟨by decide, by decide⟩) (by decide) (by decide)) hq

set_option maxHeartbeats 4000000 in
set_option maxRecDepth 100000 in
theorem t_f_Ar_holds (x1 : Int32) (q : z_Sg) (hx1 : y_in x1 (-256) (511)) (hq : iK q) : z_ok (f_Ar_holds x1 q) (fun o : Int32 => y_in o (0) (1)) := by
  unfold f_Ar_holds
  refine z_ok_n (fun n1 en1 => ?_)
  refine z_ok_i (fun c61602 => ?_) (fun c61602 => ?_)
  · have z61603 : y_in (n1 &&& (128 : Int32)) (0) (0) := z_w (z_eq1 c61602 (show y_in (0 : Int32) (0) (0) from ⟨by decide, by decide⟩)) (by decide) (by decide)
    exact t_k_Ar_holds_21 x1 n1 (0 : Int32) q hx1 (z_w (show y_in (0 : Int32) (0) (0) from ⟨by decide, by decide⟩) (by decide) (by decide)) hq
  · have z61604 : y_in (n1 &&& (128 : Int32)) (1) (128) := z_w (z_ne1 c61602 (z_and (show y_in (128 : Int32) (128) (128) from ⟨by decide, by decide⟩) (by decide)) (by decide)) (by decide) (by decide)
    exact t_k_Ar_holds_21 x1 n1 (1 : Int32) q hx1 (z_w (show y_in (1 : Int32) (1) (1) from ⟨by decide, by decide⟩) (by decide) (by decide)) hq

set_option maxHeartbeats 4000000 in
set_option maxRecDepth 100000 in
theorem t_f_Fl_jump (x1 : Int64) (q : z_Sg) (hq : iK q) : z_ok (f_Fl_jump x1 q) (fun o : Int32 × z_Sg => iK o.2 ∧ y_in o.1 (-1) (13)) := by
  unfold f_Fl_jump
  refine z_ok_b (t_f_Pa_isWrong x1 q hq) (fun r1 hr1 => ?_)
  refine z_ok_i (fun c61605 => ?_) (fun c61605 => ?_)
  · have z61606 : y_in r1 (0) (0) := z_w (z_eq1 c61605 (show y_in (0 : Int32) (0) (0) from ⟨by decide, by decide⟩)) (by decide) (by decide)
    refine z_ok_n (fun q3 eq3 => ?_)
    have hq3 : iK q3 := by rw [eq3]; exact (iK_sL hq)
    exact z_ok_s ⟨hq3, (z_w (show y_in (-1 : Int32) (-1) (-1) from ⟨by decide, by decide⟩) (by decide) (by decide))⟩
  · have z61607 : y_in r1 (1) (1) := z_w (z_ne1 c61605 hr1 (by decide)) (by decide) (by decide)
    exact z_ok_s ⟨hq, (z_w (show y_in (13 : Int32) (13) (13) from ⟨by decide, by decide⟩) (by decide) (by decide))⟩

set_option maxHeartbeats 4000000 in
set_option maxRecDepth 100000 in
theorem t_kb_Sp_put_7_2 (ih2 : Int64 × Int32 × z_Sg → Option z_Sg) (x1 : Int64) (x3 : Int32) (q : z_Sg) (hi2 : ∀ (x1' : Int64) (x3' : Int32) (q' : z_Sg), y_in x3' (0) (8) → iK q' → (8 - x3'.toInt).toNat < (8 - x3.toInt).toNat → z_ok (ih2 (x1', x3', q')) (fun o : z_Sg => iK o)) (hx3 : y_in x3 (0) (8)) (hq : iK q) : z_ok (kb_Sp_put_7_2 ih2 x1 x3 q) (fun o : z_Sg => iK o) := by
  unfold kb_Sp_put_7_2
  refine z_ok_i (fun c61608 => ?_) (fun c61608 => ?_)
  · exact z_ok_s hq
  · have z61609 : y_in (z_gI q 16) (1) (8) := z_w (z_nle1 c61608 (iK_f16 hq) hx3) (by decide) (by decide)
    have z61610 : y_in x3 (0) (7) := z_w (z_nle2 c61608 (iK_f16 hq) hx3) (by decide) (by decide)
    refine z_ok_g (z_nbad z61610 (by decide)) ?_
    refine z_ok_b (t_f_Pa_putByte (z_gM q 2 x3.toNatClampNeg) (z_lushr x1 ((8 : Int32) * x3)) q hq) (fun r3 hr3 => ?_)
    refine z_ok_n (fun n4 en4 => ?_)
    have hn4 : y_in n4 (1) (8) := z_e en4 (z_w (a' := 1) (b' := 8) (z_add z61610 (show y_in (1 : Int32) (1) (1) from ⟨by decide, by decide⟩) (by decide) (by decide)) (by decide) (by decide))
    exact hi2 x1 n4 r3 (z_w hn4 (by decide) (by decide)) hr3 (z_mu (8) 1 z61610 en4 (by decide) (by decide) (by decide) (by decide))

set_option maxHeartbeats 4000000 in
set_option maxRecDepth 100000 in
theorem t_k_Sp_put_7_2 (x1 : Int64) (x3 : Int32) (q : z_Sg) (hx3 : y_in x3 (0) (0)) (hq : iK q) : z_ok (k_Sp_put_7_2 x1 x3 q) (fun o : z_Sg => iK o) := by
  unfold k_Sp_put_7_2
  refine z_ok_l (fun a : Int64 × Int32 × z_Sg => y_in a.2.1 (0) (8) ∧ iK a.2.2) (fun a => (8 - a.2.1.toInt).toNat) ?_ (x1, x3, q) ⟨(z_w hx3 (by decide) (by decide)), hq⟩ (by show ((8 - x3.toInt).toNat) < 2000; have z1 := hx3.1; have z2 := hx3.2; omega)
  intro ih a ha hih
  exact t_kb_Sp_put_7_2 ih a.1 a.2.1 a.2.2 (fun x1' x3' q' hx3' hq' hm => hih (x1', x3', q') ⟨hx3', hq'⟩ hm) ha.1 ha.2

set_option maxHeartbeats 4000000 in
set_option maxRecDepth 100000 in
theorem t_f_Sp_put_7 (x1 : Int64) (q : z_Sg) (hq : iK q) : z_ok (f_Sp_put_7 x1 q) (fun o : z_Sg => iK o) := by
  unfold f_Sp_put_7
  exact t_k_Sp_put_7_2 x1 (0 : Int32) q (show y_in (0 : Int32) (0) (0) from ⟨by decide, by decide⟩) hq

set_option maxHeartbeats 4000000 in
set_option maxRecDepth 100000 in
theorem t_f_De_registerE (q : z_Sg) (hq : iK q) : z_ok (f_De_registerE q) (fun o : Int32 => y_in o (0) (15)) := by
  unfold f_De_registerE
  refine z_ok_b (t_f_De_extension (1 : Int32) q (z_w (show y_in (1 : Int32) (1) (1) from ⟨by decide, by decide⟩) (by decide) (by decide)) hq) (fun r1 hr1 => ?_)
  exact z_ok_s (z_w (a' := 0) (b' := 15) (z_or 4 (iK_f14 hq) hr1 (by decide) (by decide) (by decide) (by decide) (by decide)) (by decide) (by decide))

set_option maxHeartbeats 4000000 in
set_option maxRecDepth 100000 in
theorem t_k_Op_put_38 (q : z_Sg) (hq : iK q) : z_ok (k_Op_put_38 q) (fun o : z_Sg => iK o) := by
  unfold k_Op_put_38
  exact z_ok_s hq

set_option maxHeartbeats 4000000 in
set_option maxRecDepth 100000 in
theorem t_f_Op_put (x1 : Int64) (q : z_Sg) (hq : iK q) : z_ok (f_Op_put x1 q) (fun o : z_Sg => iK o) := by
  unfold f_Op_put
  refine z_ok_i (fun c61611 => ?_) (fun c61611 => ?_)
  · have z61612 : y_in (z_gI q 12) (3) (3) := z_w (z_eq1 c61611 (show y_in (3 : Int32) (3) (3) from ⟨by decide, by decide⟩)) (by decide) (by decide)
    refine z_ok_b (t_f_De_registerE q hq) (fun r3 hr3 => ?_)
    refine z_ok_b (t_f_Op_putPart r3 x1 (z_gI q 15) q hr3 (iK_f15 hq) hq) (fun r4 hr4 => ?_)
    exact t_k_Op_put_38 r4 hr4
  · refine z_ok_b (t_f_Sp_put_7 x1 q hq) (fun r2 hr2 => ?_)
    exact t_k_Op_put_38 r2 hr2

set_option maxHeartbeats 4000000 in
set_option maxRecDepth 100000 in
theorem t_k_De_placeOfE_93 (x3 : Int64) (q : z_Sg) (hq : iK q) : z_ok (k_De_placeOfE_93 x3 q) (fun _ : Int64 => True) := by
  unfold k_De_placeOfE_93
  exact z_ok_s trivial

set_option maxHeartbeats 4000000 in
set_option maxRecDepth 100000 in
theorem t_k_De_placeOfE_63 (x3 : Int64) (q : z_Sg) (hq : iK q) : z_ok (k_De_placeOfE_63 x3 q) (fun _ : Int64 => True) := by
  unfold k_De_placeOfE_63
  refine z_ok_i (fun c61613 => ?_) (fun c61613 => ?_)
  · have z61614 : y_in (z_gI q 8) (-1) (-1) := z_w (z_lt1 c61613 (iK_f8 hq) (show y_in (0 : Int32) (0) (0) from ⟨by decide, by decide⟩)) (by decide) (by decide)
    exact t_k_De_placeOfE_93 x3 q hq
  · have z61615 : y_in (z_gI q 8) (0) (15) := z_w (z_nlt1 c61613 (iK_f8 hq) (show y_in (0 : Int32) (0) (0) from ⟨by decide, by decide⟩)) (by decide) (by decide)
    refine z_ok_g (z_nbad (z_and (show y_in (15 : Int32) (15) (15) from ⟨by decide, by decide⟩) (by decide)) (by decide)) ?_
    refine z_ok_n (fun n6 en6 => ?_)
    exact t_k_De_placeOfE_93 n6 q hq

set_option maxHeartbeats 4000000 in
set_option maxRecDepth 100000 in
theorem t_k_De_placeOfE_60 (t0 : Int64) (t1 : Int64) (t2 : Int64) (q : z_Sg) (hq : iK q) : z_ok (k_De_placeOfE_60 t0 t1 t2 q) (fun _ : Int64 => True) := by
  unfold k_De_placeOfE_60
  refine z_ok_n (fun n9 en9 => ?_)
  exact t_k_De_placeOfE_63 n9 q hq

set_option maxHeartbeats 4000000 in
set_option maxRecDepth 100000 in
theorem t_f_De_placeOfE (x1 : Int64) (q : z_Sg) (hq : iK q) : z_ok (f_De_placeOfE x1 q) (fun _ : Int64 => True) := by
  unfold f_De_placeOfE
  refine z_ok_n (fun n1 en1 => ?_)
  refine z_ok_i (fun c61616 => ?_) (fun c61616 => ?_)
  · have z61617 : y_in (z_gI q 7) (-2) (-2) := z_w (z_eq1 c61616 (show y_in (-2 : Int32) (-2) (-2) from ⟨by decide, by decide⟩)) (by decide) (by decide)
    refine z_ok_n (fun n10 en10 => ?_)
    exact t_k_De_placeOfE_63 n10 q hq
  · have z61618 : y_in (z_gI q 7) (-1) (15) := z_w (z_ne1 c61616 (iK_f7 hq) (by decide)) (by decide) (by decide)
    refine z_ok_i (fun c61619 => ?_) (fun c61619 => ?_)
    · have z61620 : y_in (z_gI q 7) (-1) (-1) := z_w (z_lt1 c61619 z61618 (show y_in (0 : Int32) (0) (0) from ⟨by decide, by decide⟩)) (by decide) (by decide)
      exact t_k_De_placeOfE_63 n1 q hq
    · have z61621 : y_in (z_gI q 7) (0) (15) := z_w (z_nlt1 c61619 z61618 (show y_in (0 : Int32) (0) (0) from ⟨by decide, by decide⟩)) (by decide) (by decide)
      refine z_ok_g (z_nbad (z_and (show y_in (15 : Int32) (15) (15) from ⟨by decide, by decide⟩) (by decide)) (by decide)) ?_
      refine z_ok_i (fun c61622 => ?_) (fun c61622 => ?_)
      · have z61623 : y_in (z_gI q 7) (4) (4) := z_w (z_eq1 c61622 (show y_in (4 : Int32) (4) (4) from ⟨by decide, by decide⟩)) (by decide) (by decide)
        exact t_k_De_placeOfE_60 n1 (z_gM q 0 ((z_gI q 7) &&& (15 : Int32)).toNatClampNeg) x1 q hq
      · exact t_k_De_placeOfE_60 n1 (z_gM q 0 ((z_gI q 7) &&& (15 : Int32)).toNatClampNeg) (0 : Int64) q hq

set_option maxHeartbeats 4000000 in
set_option maxRecDepth 100000 in
theorem t_k_De_hasStackBase_21 (t0 : Int32) (q : z_Sg) (ht0 : y_in t0 (0) (1)) (hq : iK q) : z_ok (k_De_hasStackBase_21 t0 q) (fun o : Int32 => y_in o (0) (1)) := by
  unfold k_De_hasStackBase_21
  refine z_ok_G (z_bi ht0) ?_
  exact z_ok_s ht0

set_option maxHeartbeats 4000000 in
set_option maxRecDepth 100000 in
theorem t_k_De_hasStackBase_16 (q : z_Sg) (hq : iK q) : z_ok (k_De_hasStackBase_16 q) (fun o : Int32 => y_in o (0) (1)) := by
  unfold k_De_hasStackBase_16
  exact t_k_De_hasStackBase_21 (1 : Int32) q (z_w (show y_in (1 : Int32) (1) (1) from ⟨by decide, by decide⟩) (by decide) (by decide)) hq

set_option maxHeartbeats 4000000 in
set_option maxRecDepth 100000 in
theorem t_f_De_hasStackBase (q : z_Sg) (hq : iK q) : z_ok (f_De_hasStackBase q) (fun o : Int32 => y_in o (0) (1)) := by
  unfold f_De_hasStackBase
  refine z_ok_i (fun c61624 => ?_) (fun c61624 => ?_)
  · have z61625 : y_in (z_gI q 7) (4) (4) := z_w (z_eq1 c61624 (show y_in (4 : Int32) (4) (4) from ⟨by decide, by decide⟩)) (by decide) (by decide)
    exact t_k_De_hasStackBase_16 q hq
  · refine z_ok_i (fun c61626 => ?_) (fun c61626 => ?_)
    · have z61627 : y_in (z_gI q 7) (5) (5) := z_w (z_eq1 c61626 (show y_in (5 : Int32) (5) (5) from ⟨by decide, by decide⟩)) (by decide) (by decide)
      exact t_k_De_hasStackBase_16 q hq
    · exact t_k_De_hasStackBase_21 (0 : Int32) q (z_w (show y_in (0 : Int32) (0) (0) from ⟨by decide, by decide⟩) (by decide) (by decide)) hq

set_option maxHeartbeats 4000000 in
set_option maxRecDepth 100000 in
theorem t_k_Sp_find_7_128 (ih16 : Int64 × Int32 × Int32 × Int32 × z_Sg → Option (Int32 × z_Sg)) (x1 : Int64) (x4 : Int32) (x5 : Int32) (x6 : Int32) (q : z_Sg) (hi16 : ∀ (x1' : Int64) (x4' : Int32) (x5' : Int32) (x6' : Int32) (q' : z_Sg), y_in x4' (0) (1) → y_in x5' (0) (1) → y_in x6' (0) (8) → iK q' → (8 - x6'.toInt).toNat < (8 - x6.toInt).toNat → z_ok (ih16 (x1', x4', x5', x6', q')) (fun o : Int32 × z_Sg => iK o.2 ∧ y_in o.1 (-1) (14))) (hx4 : y_in x4 (0) (1)) (hx5 : y_in x5 (0) (1)) (hx6 : y_in x6 (0) (7)) (hq : iK q) : z_ok (k_Sp_find_7_128 ih16 x1 x4 x5 x6 q) (fun o : Int32 × z_Sg => iK o.2 ∧ y_in o.1 (-1) (14)) := by
  unfold k_Sp_find_7_128
  refine z_ok_n (fun n11 en11 => ?_)
  have hn11 : y_in n11 (1) (8) := z_e en11 (z_w (a' := 1) (b' := 8) (z_add hx6 (show y_in (1 : Int32) (1) (1) from ⟨by decide, by decide⟩) (by decide) (by decide)) (by decide) (by decide))
  exact hi16 x1 x4 x5 n11 q hx4 hx5 (z_w hn11 (by decide) (by decide)) hq (z_mu (8) 1 hx6 en11 (by decide) (by decide) (by decide) (by decide))

set_option maxHeartbeats 4000000 in
set_option maxRecDepth 100000 in
theorem t_k_Sp_find_7_124 (t1 : Int64) (t2 : Int64) (t3 : Int32) (q : z_Sg) (ht3 : y_in t3 (12) (13)) (hq : iK q) : z_ok (k_Sp_find_7_124 t1 t2 t3 q) (fun o : Int32 × z_Sg => iK o.2 ∧ y_in o.1 (-1) (14)) := by
  unfold k_Sp_find_7_124
  refine z_ok_b (t_f_Pa_refusal t1 t2 t3 q ht3 hq) (fun r14 hr14 => ?_)
  exact z_ok_s ⟨hr14.1, (z_w hr14.2 (by decide) (by decide))⟩

set_option maxHeartbeats 4000000 in
set_option maxRecDepth 100000 in
theorem t_k_Sp_find_7_69 (ih16 : Int64 × Int32 × Int32 × Int32 × z_Sg → Option (Int32 × z_Sg)) (x1 : Int64) (x4 : Int32) (x5 : Int32) (x6 : Int32) (x7 : Int64) (q : z_Sg) (hi16 : ∀ (x1' : Int64) (x4' : Int32) (x5' : Int32) (x6' : Int32) (q' : z_Sg), y_in x4' (0) (1) → y_in x5' (0) (1) → y_in x6' (0) (8) → iK q' → (8 - x6'.toInt).toNat < (8 - x6.toInt).toNat → z_ok (ih16 (x1', x4', x5', x6', q')) (fun o : Int32 × z_Sg => iK o.2 ∧ y_in o.1 (-1) (14))) (hx4 : y_in x4 (0) (1)) (hx5 : y_in x5 (0) (1)) (hx6 : y_in x6 (0) (7)) (hq : iK q) : z_ok (k_Sp_find_7_69 ih16 x1 x4 x5 x6 x7 q) (fun o : Int32 × z_Sg => iK o.2 ∧ y_in o.1 (-1) (14)) := by
  unfold k_Sp_find_7_69
  refine z_ok_b (t_f_Pa_locate x7 x4 q hq) (fun r6 hr6 => ?_)
  refine z_ok_g (z_nbad hx6 (by decide)) ?_
  refine z_ok_n (fun q8 eq8 => ?_)
  have hq8 : iK q8 := by rw [eq8]; exact (iK_sM hq)
  refine z_ok_g (z_nbad hx6 (by decide)) ?_
  refine z_ok_i (fun c61628 => ?_) (fun c61628 => ?_)
  · exact t_k_Sp_find_7_128 ih16 x1 x4 x5 x6 q8 hi16 hx4 hx5 hx6 hq8
  · refine z_ok_g (z_nbad hx6 (by decide)) ?_
    refine z_ok_i (fun c61629 => ?_) (fun c61629 => ?_)
    · have z61630 : y_in x5 (0) (0) := z_w (z_eq1 c61629 (show y_in (0 : Int32) (0) (0) from ⟨by decide, by decide⟩)) (by decide) (by decide)
      exact t_k_Sp_find_7_124 x7 (z_gM q8 2 x6.toNatClampNeg) (13 : Int32) q8 (z_w (show y_in (13 : Int32) (13) (13) from ⟨by decide, by decide⟩) (by decide) (by decide)) hq8
    · have z61631 : y_in x5 (1) (1) := z_w (z_ne1 c61629 hx5 (by decide)) (by decide) (by decide)
      exact t_k_Sp_find_7_124 x7 (z_gM q8 2 x6.toNatClampNeg) (12 : Int32) q8 (z_w (show y_in (12 : Int32) (12) (12) from ⟨by decide, by decide⟩) (by decide) (by decide)) hq8

set_option maxHeartbeats 4000000 in
set_option maxRecDepth 100000 in
theorem t_kb_Sp_find_7_16 (ih16 : Int64 × Int32 × Int32 × Int32 × z_Sg → Option (Int32 × z_Sg)) (x1 : Int64) (x4 : Int32) (x5 : Int32) (x6 : Int32) (q : z_Sg) (hi16 : ∀ (x1' : Int64) (x4' : Int32) (x5' : Int32) (x6' : Int32) (q' : z_Sg), y_in x4' (0) (1) → y_in x5' (0) (1) → y_in x6' (0) (8) → iK q' → (8 - x6'.toInt).toNat < (8 - x6.toInt).toNat → z_ok (ih16 (x1', x4', x5', x6', q')) (fun o : Int32 × z_Sg => iK o.2 ∧ y_in o.1 (-1) (14))) (hx4 : y_in x4 (0) (1)) (hx5 : y_in x5 (0) (1)) (hx6 : y_in x6 (0) (8)) (hq : iK q) : z_ok (kb_Sp_find_7_16 ih16 x1 x4 x5 x6 q) (fun o : Int32 × z_Sg => iK o.2 ∧ y_in o.1 (-1) (14)) := by
  unfold kb_Sp_find_7_16
  refine z_ok_i (fun c61632 => ?_) (fun c61632 => ?_)
  · exact z_ok_s ⟨hq, (z_w (show y_in (-1 : Int32) (-1) (-1) from ⟨by decide, by decide⟩) (by decide) (by decide))⟩
  · have z61633 : y_in (z_gI q 16) (1) (8) := z_w (z_nle1 c61632 (iK_f16 hq) hx6) (by decide) (by decide)
    have z61634 : y_in x6 (0) (7) := z_w (z_nle2 c61632 (iK_f16 hq) hx6) (by decide) (by decide)
    refine z_ok_n (fun n4 en4 => ?_)
    refine z_ok_i (fun c61635 => ?_) (fun c61635 => ?_)
    · have z61636 : y_in x6 (0) (0) := z_w (z_le1 c61635 z61634 (show y_in (0 : Int32) (0) (0) from ⟨by decide, by decide⟩)) (by decide) (by decide)
      exact t_k_Sp_find_7_69 ih16 x1 x4 x5 x6 n4 q hi16 hx4 hx5 (z_w z61636 (by decide) (by decide)) hq
    · have z61637 : y_in x6 (1) (7) := z_w (z_nle1 c61635 z61634 (show y_in (0 : Int32) (0) (0) from ⟨by decide, by decide⟩)) (by decide) (by decide)
      refine z_ok_i (fun c61638 => ?_) (fun c61638 => ?_)
      · exact t_k_Sp_find_7_69 ih16 x1 x4 x5 x6 n4 q hi16 hx4 hx5 (z_w z61637 (by decide) (by decide)) hq
      · refine z_ok_g (z_nbad (z_w (a' := 0) (b' := 6) (z_sub z61637 (show y_in (1 : Int32) (1) (1) from ⟨by decide, by decide⟩) (by decide) (by decide)) (by decide) (by decide)) (by decide)) ?_
        refine z_ok_g (z_nbad (z_w z61637 (by decide) (Int.le_refl _)) (by decide)) ?_
        refine z_ok_n (fun q18 eq18 => ?_)
        have hq18 : iK q18 := by rw [eq18]; exact (iK_sM hq)
        exact t_k_Sp_find_7_128 ih16 x1 x4 x5 x6 q18 hi16 hx4 hx5 (z_w z61637 (by decide) (by decide)) hq18

set_option maxHeartbeats 4000000 in
set_option maxRecDepth 100000 in
theorem t_k_Sp_find_7_16 (x1 : Int64) (x4 : Int32) (x5 : Int32) (x6 : Int32) (q : z_Sg) (hx4 : y_in x4 (0) (1)) (hx5 : y_in x5 (0) (1)) (hx6 : y_in x6 (0) (0)) (hq : iK q) : z_ok (k_Sp_find_7_16 x1 x4 x5 x6 q) (fun o : Int32 × z_Sg => iK o.2 ∧ y_in o.1 (-1) (14)) := by
  unfold k_Sp_find_7_16
  refine z_ok_l (fun a : Int64 × Int32 × Int32 × Int32 × z_Sg => y_in a.2.1 (0) (1) ∧ y_in a.2.2.1 (0) (1) ∧ y_in a.2.2.2.1 (0) (8) ∧ iK a.2.2.2.2) (fun a => (8 - a.2.2.2.1.toInt).toNat) ?_ (x1, x4, x5, x6, q) ⟨hx4, hx5, (z_w hx6 (by decide) (by decide)), hq⟩ (by show ((8 - x6.toInt).toNat) < 2000; have z1 := hx6.1; have z2 := hx6.2; omega)
  intro ih a ha hih
  exact t_kb_Sp_find_7_16 ih a.1 a.2.1 a.2.2.1 a.2.2.2.1 a.2.2.2.2 (fun x1' x4' x5' x6' q' hx4' hx5' hx6' hq' hm => hih (x1', x4', x5', x6', q') ⟨hx4', hx5', hx6', hq'⟩ hm) ha.1 ha.2.1 ha.2.2.1 ha.2.2.2

set_option maxHeartbeats 4000000 in
set_option maxRecDepth 100000 in
theorem t_f_Sp_find_7 (x1 : Int64) (x3 : Int32) (x4 : Int32) (x5 : Int32) (q : z_Sg) (hx3 : y_in x3 (0) (8)) (hx4 : y_in x4 (0) (1)) (hx5 : y_in x5 (0) (1)) (hq : iK q) : z_ok (f_Sp_find_7 x1 x3 x4 x5 q) (fun o : Int32 × z_Sg => iK o.2 ∧ y_in o.1 (-1) (14)) := by
  unfold f_Sp_find_7
  refine z_ok_b (t_f_Ma_min (e := 0) (f := 8) x3 (8 : Int32) q hx3 (show y_in (8 : Int32) (8) (8) from ⟨by decide, by decide⟩) (by decide) (by decide)) (fun r1 hr1 => ?_)
  refine z_ok_n (fun q2 eq2 => ?_)
  have hq2 : iK q2 := by rw [eq2]; exact (iK_sI16 hq hr1)
  exact t_k_Sp_find_7_16 x1 x4 x5 (0 : Int32) q2 hx4 hx5 (show y_in (0 : Int32) (0) (0) from ⟨by decide, by decide⟩) hq2

set_option maxHeartbeats 4000000 in
set_option maxRecDepth 100000 in
theorem t_k_Op_isOnStack_54 (t0 : Int32) (q : z_Sg) (ht0 : y_in t0 (0) (1)) (hq : iK q) : z_ok (k_Op_isOnStack_54 t0 q) (fun o : Int32 => y_in o (0) (1)) := by
  unfold k_Op_isOnStack_54
  refine z_ok_G (z_bi ht0) ?_
  exact z_ok_s ht0

set_option maxHeartbeats 4000000 in
set_option maxRecDepth 100000 in
theorem t_k_Op_isOnStack_49 (q : z_Sg) (hq : iK q) : z_ok (k_Op_isOnStack_49 q) (fun o : Int32 => y_in o (0) (1)) := by
  unfold k_Op_isOnStack_49
  exact t_k_Op_isOnStack_54 (1 : Int32) q (z_w (show y_in (1 : Int32) (1) (1) from ⟨by decide, by decide⟩) (by decide) (by decide)) hq

set_option maxHeartbeats 4000000 in
set_option maxRecDepth 100000 in
theorem t_k_Op_isOnStack_53 (q : z_Sg) (hq : iK q) : z_ok (k_Op_isOnStack_53 q) (fun o : Int32 => y_in o (0) (1)) := by
  unfold k_Op_isOnStack_53
  exact t_k_Op_isOnStack_54 (0 : Int32) q (z_w (show y_in (0 : Int32) (0) (0) from ⟨by decide, by decide⟩) (by decide) (by decide)) hq

set_option maxHeartbeats 4000000 in
set_option maxRecDepth 100000 in
theorem t_f_Op_isOnStack (q : z_Sg) (hq : iK q) : z_ok (f_Op_isOnStack q) (fun o : Int32 => y_in o (0) (1)) := by
  unfold f_Op_isOnStack
  refine z_ok_i (fun c61639 => ?_) (fun c61639 => ?_)
  · have z61640 : y_in (z_gI q 11) (143) (143) := z_w (z_eq1 c61639 (show y_in (143 : Int32) (143) (143) from ⟨by decide, by decide⟩)) (by decide) (by decide)
    exact t_k_Op_isOnStack_49 q hq
  · refine z_ok_i (fun c61641 => ?_) (fun c61641 => ?_)
    · have z61642 : y_in (z_gI q 11) (255) (255) := z_w (z_eq1 c61641 (show y_in (255 : Int32) (255) (255) from ⟨by decide, by decide⟩)) (by decide) (by decide)
      refine z_ok_i (fun c61643 => ?_) (fun c61643 => ?_)
      · have z61644 : y_in (z_gI q 13) (2) (2) := z_w (z_eq1 c61643 (show y_in (2 : Int32) (2) (2) from ⟨by decide, by decide⟩)) (by decide) (by decide)
        exact t_k_Op_isOnStack_49 q hq
      · refine z_ok_i (fun c61645 => ?_) (fun c61645 => ?_)
        · have z61646 : y_in (z_gI q 13) (6) (6) := z_w (z_eq1 c61645 (show y_in (6 : Int32) (6) (6) from ⟨by decide, by decide⟩)) (by decide) (by decide)
          exact t_k_Op_isOnStack_49 q hq
        · exact t_k_Op_isOnStack_53 q hq
    · exact t_k_Op_isOnStack_53 q hq

set_option maxHeartbeats 4000000 in
set_option maxRecDepth 100000 in
theorem t_k_Op_openAt_40 (t1 : Int64) (t2 : Int32) (t3 : Int32) (t4 : Int32) (q : z_Sg) (ht2 : y_in t2 (0) (8)) (ht3 : y_in t3 (0) (1)) (ht4 : y_in t4 (0) (1)) (hq : iK q) : z_ok (k_Op_openAt_40 t1 t2 t3 t4 q) (fun o : Int32 × z_Sg => iK o.2 ∧ y_in o.1 (-1) (14)) := by
  unfold k_Op_openAt_40
  refine z_ok_b (t_f_Sp_find_7 t1 t2 t3 t4 q ht2 ht3 ht4 hq) (fun r4 hr4 => ?_)
  exact z_ok_s ⟨hr4.1, hr4.2⟩

set_option maxHeartbeats 4000000 in
set_option maxRecDepth 100000 in
theorem t_k_Op_openAt_35 (t1 : Int64) (t2 : Int32) (t3 : Int32) (q : z_Sg) (ht2 : y_in t2 (0) (8)) (ht3 : y_in t3 (0) (1)) (hq : iK q) : z_ok (k_Op_openAt_35 t1 t2 t3 q) (fun o : Int32 × z_Sg => iK o.2 ∧ y_in o.1 (-1) (14)) := by
  unfold k_Op_openAt_35
  exact t_k_Op_openAt_40 t1 t2 t3 (1 : Int32) q ht2 ht3 (z_w (show y_in (1 : Int32) (1) (1) from ⟨by decide, by decide⟩) (by decide) (by decide)) hq

set_option maxHeartbeats 4000000 in
set_option maxRecDepth 100000 in
theorem t_k_Op_openAt_18 (t1 : Int64) (t2 : Int32) (t3 : Int32) (q : z_Sg) (ht2 : y_in t2 (0) (8)) (ht3 : y_in t3 (0) (1)) (hq : iK q) : z_ok (k_Op_openAt_18 t1 t2 t3 q) (fun o : Int32 × z_Sg => iK o.2 ∧ y_in o.1 (-1) (14)) := by
  unfold k_Op_openAt_18
  refine z_ok_b (t_f_De_hasStackBase q hq) (fun r2 hr2 => ?_)
  refine z_ok_i (fun c61647 => ?_) (fun c61647 => ?_)
  · have z61648 : y_in r2 (0) (0) := z_w (z_eq1 c61647 (show y_in (0 : Int32) (0) (0) from ⟨by decide, by decide⟩)) (by decide) (by decide)
    refine z_ok_b (t_f_Op_isOnStack q hq) (fun r5 hr5 => ?_)
    refine z_ok_i (fun c61649 => ?_) (fun c61649 => ?_)
    · have z61650 : y_in r5 (0) (0) := z_w (z_eq1 c61649 (show y_in (0 : Int32) (0) (0) from ⟨by decide, by decide⟩)) (by decide) (by decide)
      exact t_k_Op_openAt_40 t1 t2 t3 (0 : Int32) q ht2 ht3 (z_w (show y_in (0 : Int32) (0) (0) from ⟨by decide, by decide⟩) (by decide) (by decide)) hq
    · have z61651 : y_in r5 (1) (1) := z_w (z_ne1 c61649 hr5 (by decide)) (by decide) (by decide)
      exact t_k_Op_openAt_35 t1 t2 t3 q ht2 ht3 hq
  · have z61652 : y_in r2 (1) (1) := z_w (z_ne1 c61647 hr2 (by decide)) (by decide) (by decide)
    exact t_k_Op_openAt_35 t1 t2 t3 q ht2 ht3 hq

set_option maxHeartbeats 4000000 in
set_option maxRecDepth 100000 in
theorem t_f_Op_openAt (x1 : Int64) (x3 : Int32) (q : z_Sg) (hx3 : y_in x3 (0) (1)) (hq : iK q) : z_ok (f_Op_openAt x1 x3 q) (fun o : Int32 × z_Sg => iK o.2 ∧ y_in o.1 (-1) (14)) := by
  unfold f_Op_openAt
  refine z_ok_i (fun c61653 => ?_) (fun c61653 => ?_)
  · have z61654 : y_in x3 (0) (0) := z_w (z_eq1 c61653 (show y_in (0 : Int32) (0) (0) from ⟨by decide, by decide⟩)) (by decide) (by decide)
    exact t_k_Op_openAt_18 x1 (z_gI q 15) (0 : Int32) q (iK_f15 hq) (z_w (show y_in (0 : Int32) (0) (0) from ⟨by decide, by decide⟩) (by decide) (by decide)) hq
  · have z61655 : y_in x3 (1) (1) := z_w (z_ne1 c61653 hx3 (by decide)) (by decide) (by decide)
    exact t_k_Op_openAt_18 x1 (z_gI q 15) (1 : Int32) q (iK_f15 hq) (z_w (show y_in (1 : Int32) (1) (1) from ⟨by decide, by decide⟩) (by decide) (by decide)) hq

set_option maxHeartbeats 4000000 in
set_option maxRecDepth 100000 in
theorem t_k_Fl_popMemory_70 (x2 : Int32) (q : z_Sg) (hx2 : y_in x2 (-1) (14)) (hq : iK q) : z_ok (k_Fl_popMemory_70 x2 q) (fun o : Int32 × z_Sg => iK o.2 ∧ y_in o.1 (-1) (14)) := by
  unfold k_Fl_popMemory_70
  exact z_ok_s ⟨hq, hx2⟩

set_option maxHeartbeats 4000000 in
set_option maxRecDepth 100000 in
theorem t_k_Fl_popMemory_37 (x1 : Int32) (x2 : Int32) (q : z_Sg) (hx1 : y_in x1 (2) (8)) (hx2 : y_in x2 (-1) (14)) (hq : iK q) : z_ok (k_Fl_popMemory_37 x1 x2 q) (fun o : Int32 × z_Sg => iK o.2 ∧ y_in o.1 (-1) (14)) := by
  unfold k_Fl_popMemory_37
  refine z_ok_i (fun c61656 => ?_) (fun c61656 => ?_)
  · have z61657 : y_in x2 (-1) (-1) := z_w (z_eq1 c61656 (show y_in (-1 : Int32) (-1) (-1) from ⟨by decide, by decide⟩)) (by decide) (by decide)
    refine z_ok_b (t_f_Sp_value_12 q hq) (fun r5 hr5 => ?_)
    refine z_ok_b (t_f_Op_put r5 q hq) (fun r6 hr6 => ?_)
    refine z_ok_g (z_nbad (z_w (show y_in (4 : Int32) (4) (4) from ⟨by decide, by decide⟩) (by decide) (Int.le_refl _)) (by decide)) ?_
    refine z_ok_g (z_nbad (z_w (show y_in (4 : Int32) (4) (4) from ⟨by decide, by decide⟩) (by decide) (Int.le_refl _)) (by decide)) ?_
    refine z_ok_n (fun q9 eq9 => ?_)
    have hq9 : iK q9 := by rw [eq9]; exact (iK_sM hr6)
    exact t_k_Fl_popMemory_70 x2 q9 (z_w z61657 (by decide) (by decide)) hq9
  · have z61658 : y_in x2 (0) (14) := z_w (z_ne1 c61656 hx2 (by decide)) (by decide) (by decide)
    exact t_k_Fl_popMemory_70 x2 q (z_w z61658 (by decide) (by decide)) hq

set_option maxHeartbeats 4000000 in
set_option maxRecDepth 100000 in
theorem t_f_Fl_popMemory (q : z_Sg) (hq : iK q) : z_ok (f_Fl_popMemory q) (fun o : Int32 × z_Sg => iK o.2 ∧ y_in o.1 (-1) (14)) := by
  unfold f_Fl_popMemory
  refine z_ok_b (t_f_De_sizeOnStack q hq) (fun r1 hr1 => ?_)
  refine z_ok_b (t_f_Fl_findTop r1 q hr1 hq) (fun r2 hr2 => ?_)
  refine z_ok_i (fun c61659 => ?_) (fun c61659 => ?_)
  · have z61660 : y_in r2.1 (-1) (-1) := z_w (z_eq1 c61659 (show y_in (-1 : Int32) (-1) (-1) from ⟨by decide, by decide⟩)) (by decide) (by decide)
    refine z_ok_b (t_f_De_placeOfE r1.toInt64 r2.2 hr2.1) (fun r10 hr10 => ?_)
    refine z_ok_b (t_f_Op_openAt r10 (1 : Int32) r2.2 (z_w (show y_in (1 : Int32) (1) (1) from ⟨by decide, by decide⟩) (by decide) (by decide)) hr2.1) (fun r11 hr11 => ?_)
    exact t_k_Fl_popMemory_37 r1 r11.1 r11.2 hr1 hr11.2 hr11.1
  · have z61661 : y_in r2.1 (0) (14) := z_w (z_ne1 c61659 hr2.2 (by decide)) (by decide) (by decide)
    exact t_k_Fl_popMemory_37 r1 r2.1 r2.2 hr1 (z_w z61661 (by decide) (by decide)) hr2.1

set_option maxHeartbeats 4000000 in
set_option maxRecDepth 100000 in
theorem t_k_Fl_popFlags_52 (x2 : Int32) (q : z_Sg) (hx2 : y_in x2 (-1) (14)) (hq : iK q) : z_ok (k_Fl_popFlags_52 x2 q) (fun o : Int32 × z_Sg => iK o.2 ∧ y_in o.1 (-1) (14)) := by
  unfold k_Fl_popFlags_52
  exact z_ok_s ⟨hq, hx2⟩

set_option maxHeartbeats 4000000 in
set_option maxRecDepth 100000 in
theorem t_f_Fl_popFlags (q : z_Sg) (hq : iK q) : z_ok (f_Fl_popFlags q) (fun o : Int32 × z_Sg => iK o.2 ∧ y_in o.1 (-1) (14)) := by
  unfold f_Fl_popFlags
  refine z_ok_b (t_f_De_sizeOnStack q hq) (fun r1 hr1 => ?_)
  refine z_ok_b (t_f_Fl_findTop r1 q hr1 hq) (fun r2 hr2 => ?_)
  refine z_ok_i (fun c61662 => ?_) (fun c61662 => ?_)
  · have z61663 : y_in r2.1 (-1) (-1) := z_w (z_eq1 c61662 (show y_in (-1 : Int32) (-1) (-1) from ⟨by decide, by decide⟩)) (by decide) (by decide)
    refine z_ok_b (t_f_Sp_value_12 r2.2 hr2.1) (fun r4 hr4 => ?_)
    refine z_ok_n (fun q5 eq5 => ?_)
    have hq5 : iK q5 := by rw [eq5]; exact (iK_sI0 hr2.1)
    refine z_ok_g (z_nbad (z_w (show y_in (4 : Int32) (4) (4) from ⟨by decide, by decide⟩) (by decide) (Int.le_refl _)) (by decide)) ?_
    refine z_ok_g (z_nbad (z_w (show y_in (4 : Int32) (4) (4) from ⟨by decide, by decide⟩) (by decide) (Int.le_refl _)) (by decide)) ?_
    refine z_ok_n (fun q8 eq8 => ?_)
    have hq8 : iK q8 := by rw [eq8]; exact (iK_sM hq5)
    exact t_k_Fl_popFlags_52 r2.1 q8 (z_w z61663 (by decide) (by decide)) hq8
  · have z61664 : y_in r2.1 (0) (14) := z_w (z_ne1 c61662 hr2.2 (by decide)) (by decide) (by decide)
    exact t_k_Fl_popFlags_52 r2.1 r2.2 (z_w z61664 (by decide) (by decide)) hr2.1

set_option maxHeartbeats 4000000 in
set_option maxRecDepth 100000 in
theorem t_k_Fl_comeBack_56 (x1 : Int32) (q : z_Sg) (hx1 : y_in x1 (-1) (14)) (hq : iK q) : z_ok (k_Fl_comeBack_56 x1 q) (fun o : Int32 × z_Sg => iK o.2 ∧ y_in o.1 (-1) (14)) := by
  unfold k_Fl_comeBack_56
  exact z_ok_s ⟨hq, hx1⟩

set_option maxHeartbeats 4000000 in
set_option maxRecDepth 100000 in
theorem t_k_Fl_comeBack_24 (x1 : Int32) (q : z_Sg) (hx1 : y_in x1 (-1) (14)) (hq : iK q) : z_ok (k_Fl_comeBack_24 x1 q) (fun o : Int32 × z_Sg => iK o.2 ∧ y_in o.1 (-1) (14)) := by
  unfold k_Fl_comeBack_24
  refine z_ok_i (fun c61665 => ?_) (fun c61665 => ?_)
  · have z61666 : y_in x1 (-1) (-1) := z_w (z_eq1 c61665 (show y_in (-1 : Int32) (-1) (-1) from ⟨by decide, by decide⟩)) (by decide) (by decide)
    refine z_ok_g (z_nbad (z_w (show y_in (4 : Int32) (4) (4) from ⟨by decide, by decide⟩) (by decide) (Int.le_refl _)) (by decide)) ?_
    refine z_ok_g (z_nbad (z_w (show y_in (4 : Int32) (4) (4) from ⟨by decide, by decide⟩) (by decide) (Int.le_refl _)) (by decide)) ?_
    refine z_ok_n (fun q6 eq6 => ?_)
    have hq6 : iK q6 := by rw [eq6]; exact (iK_sM hq)
    exact t_k_Fl_comeBack_56 x1 q6 (z_w z61666 (by decide) (by decide)) hq6
  · have z61667 : y_in x1 (0) (14) := z_w (z_ne1 c61665 hx1 (by decide)) (by decide) (by decide)
    exact t_k_Fl_comeBack_56 x1 q (z_w z61667 (by decide) (by decide)) hq

set_option maxHeartbeats 4000000 in
set_option maxRecDepth 100000 in
theorem t_f_Fl_comeBack (q : z_Sg) (hq : iK q) : z_ok (f_Fl_comeBack q) (fun o : Int32 × z_Sg => iK o.2 ∧ y_in o.1 (-1) (14)) := by
  unfold f_Fl_comeBack
  refine z_ok_b (t_f_Fl_findTop (8 : Int32) q (z_w (show y_in (8 : Int32) (8) (8) from ⟨by decide, by decide⟩) (by decide) (by decide)) hq) (fun r1 hr1 => ?_)
  refine z_ok_i (fun c61668 => ?_) (fun c61668 => ?_)
  · have z61669 : y_in r1.1 (-1) (-1) := z_w (z_eq1 c61668 (show y_in (-1 : Int32) (-1) (-1) from ⟨by decide, by decide⟩)) (by decide) (by decide)
    refine z_ok_b (t_f_Sp_value_12 r1.2 hr1.1) (fun r7 hr7 => ?_)
    refine z_ok_b (t_f_Fl_jump r7 r1.2 hr1.1) (fun r8 hr8 => ?_)
    exact t_k_Fl_comeBack_24 r8.1 r8.2 (z_w hr8.2 (by decide) (by decide)) hr8.1
  · have z61670 : y_in r1.1 (0) (14) := z_w (z_ne1 c61668 hr1.2 (by decide)) (by decide) (by decide)
    exact t_k_Fl_comeBack_24 r1.1 r1.2 (z_w z61670 (by decide) (by decide)) hr1.1

set_option maxHeartbeats 4000000 in
set_option maxRecDepth 100000 in
theorem t_k_Fl_leave_58 (x3 : Int32) (q : z_Sg) (hx3 : y_in x3 (-1) (14)) (hq : iK q) : z_ok (k_Fl_leave_58 x3 q) (fun o : Int32 × z_Sg => iK o.2 ∧ y_in o.1 (-1) (14)) := by
  unfold k_Fl_leave_58
  exact z_ok_s ⟨hq, hx3⟩

set_option maxHeartbeats 4000000 in
set_option maxRecDepth 100000 in
theorem t_f_Fl_leave (q : z_Sg) (hq : iK q) : z_ok (f_Fl_leave q) (fun o : Int32 × z_Sg => iK o.2 ∧ y_in o.1 (-1) (14)) := by
  unfold f_Fl_leave
  refine z_ok_g (z_nbad (z_w (show y_in (5 : Int32) (5) (5) from ⟨by decide, by decide⟩) (by decide) (Int.le_refl _)) (by decide)) ?_
  refine z_ok_n (fun n2 en2 => ?_)
  refine z_ok_b (t_f_Sp_find_12 n2 (8 : Int32) (0 : Int32) (1 : Int32) q (z_w (show y_in (8 : Int32) (8) (8) from ⟨by decide, by decide⟩) (by decide) (by decide)) (z_w (show y_in (0 : Int32) (0) (0) from ⟨by decide, by decide⟩) (by decide) (by decide)) (show y_in (1 : Int32) (1) (1) from ⟨by decide, by decide⟩) hq) (fun r3 hr3 => ?_)
  refine z_ok_i (fun c61671 => ?_) (fun c61671 => ?_)
  · have z61672 : y_in r3.1 (-1) (-1) := z_w (z_eq1 c61671 (show y_in (-1 : Int32) (-1) (-1) from ⟨by decide, by decide⟩)) (by decide) (by decide)
    refine z_ok_b (t_f_Sp_value_12 r3.2 hr3.1) (fun r5 hr5 => ?_)
    refine z_ok_g (z_nbad (z_w (show y_in (5 : Int32) (5) (5) from ⟨by decide, by decide⟩) (by decide) (Int.le_refl _)) (by decide)) ?_
    refine z_ok_n (fun q7 eq7 => ?_)
    have hq7 : iK q7 := by rw [eq7]; exact (iK_sM hr3.1)
    refine z_ok_g (z_nbad (z_w (show y_in (4 : Int32) (4) (4) from ⟨by decide, by decide⟩) (by decide) (Int.le_refl _)) (by decide)) ?_
    refine z_ok_n (fun q9 eq9 => ?_)
    have hq9 : iK q9 := by rw [eq9]; exact (iK_sM hq7)
    exact t_k_Fl_leave_58 r3.1 q9 (z_w z61672 (by decide) (by decide)) hq9
  · have z61673 : y_in r3.1 (0) (14) := z_w (z_ne1 c61671 hr3.2 (by decide)) (by decide) (by decide)
    exact t_k_Fl_leave_58 r3.1 r3.2 (z_w z61673 (by decide) (by decide)) hr3.1

set_option maxHeartbeats 4000000 in
set_option maxRecDepth 100000 in
theorem t_k_Fl_countDown_125 (x5 : Int32) (q : z_Sg) (hx5 : y_in x5 (-1) (13)) (hq : iK q) : z_ok (k_Fl_countDown_125 x5 q) (fun o : Int32 × z_Sg => iK o.2 ∧ y_in o.1 (-1) (13)) := by
  unfold k_Fl_countDown_125
  exact z_ok_s ⟨hq, hx5⟩

set_option maxHeartbeats 4000000 in
set_option maxRecDepth 100000 in
theorem t_k_Fl_countDown_107 (x1 : Int64) (t0 : Int32) (q : z_Sg) (ht0 : y_in t0 (-1) (13)) (hq : iK q) : z_ok (k_Fl_countDown_107 x1 t0 q) (fun o : Int32 × z_Sg => iK o.2 ∧ y_in o.1 (-1) (13)) := by
  unfold k_Fl_countDown_107
  refine z_ok_i (fun c61674 => ?_) (fun c61674 => ?_)
  · have z61675 : y_in t0 (-1) (-1) := z_w (z_eq1 c61674 (show y_in (-1 : Int32) (-1) (-1) from ⟨by decide, by decide⟩)) (by decide) (by decide)
    refine z_ok_g (z_nbad (z_w (show y_in (1 : Int32) (1) (1) from ⟨by decide, by decide⟩) (by decide) (Int.le_refl _)) (by decide)) ?_
    refine z_ok_n (fun q8 eq8 => ?_)
    have hq8 : iK q8 := by rw [eq8]; exact (iK_sM hq)
    exact t_k_Fl_countDown_125 t0 q8 (z_w z61675 (by decide) (by decide)) hq8
  · have z61676 : y_in t0 (0) (13) := z_w (z_ne1 c61674 ht0 (by decide)) (by decide) (by decide)
    exact t_k_Fl_countDown_125 t0 q (z_w z61676 (by decide) (by decide)) hq

set_option maxHeartbeats 4000000 in
set_option maxRecDepth 100000 in
theorem t_k_Fl_countDown_77 (x1 : Int64) (t0 : Int32) (q : z_Sg) (ht0 : y_in t0 (0) (1)) (hq : iK q) : z_ok (k_Fl_countDown_77 x1 t0 q) (fun o : Int32 × z_Sg => iK o.2 ∧ y_in o.1 (-1) (13)) := by
  unfold k_Fl_countDown_77
  refine z_ok_i (fun c61677 => ?_) (fun c61677 => ?_)
  · have z61678 : y_in t0 (0) (0) := z_w (z_eq1 c61677 (show y_in (0 : Int32) (0) (0) from ⟨by decide, by decide⟩)) (by decide) (by decide)
    exact t_k_Fl_countDown_107 x1 (-1 : Int32) q (z_w (show y_in (-1 : Int32) (-1) (-1) from ⟨by decide, by decide⟩) (by decide) (by decide)) hq
  · have z61679 : y_in t0 (1) (1) := z_w (z_ne1 c61677 ht0 (by decide)) (by decide) (by decide)
    refine z_ok_b (t_f_Fl_jump ((z_gL q 10) + (z_gL q 9)) q hq) (fun r9 hr9 => ?_)
    exact t_k_Fl_countDown_107 x1 r9.1 r9.2 hr9.2 hr9.1

set_option maxHeartbeats 4000000 in
set_option maxRecDepth 100000 in
theorem t_k_Fl_countDown_76 (x1 : Int64) (q : z_Sg) (hq : iK q) : z_ok (k_Fl_countDown_76 x1 q) (fun o : Int32 × z_Sg => iK o.2 ∧ y_in o.1 (-1) (13)) := by
  unfold k_Fl_countDown_76
  exact t_k_Fl_countDown_77 x1 (0 : Int32) q (z_w (show y_in (0 : Int32) (0) (0) from ⟨by decide, by decide⟩) (by decide) (by decide)) hq

set_option maxHeartbeats 4000000 in
set_option maxRecDepth 100000 in
theorem t_k_Fl_countDown_72 (x1 : Int64) (q : z_Sg) (hq : iK q) : z_ok (k_Fl_countDown_72 x1 q) (fun o : Int32 × z_Sg => iK o.2 ∧ y_in o.1 (-1) (13)) := by
  unfold k_Fl_countDown_72
  exact t_k_Fl_countDown_77 x1 (1 : Int32) q (z_w (show y_in (1 : Int32) (1) (1) from ⟨by decide, by decide⟩) (by decide) (by decide)) hq

set_option maxHeartbeats 4000000 in
set_option maxRecDepth 100000 in
theorem t_k_Fl_countDown_69 (x1 : Int64) (t0 : Int32) (t1 : Int32) (q : z_Sg) (ht0 : y_in t0 (0) (1)) (ht1 : y_in t1 (0) (1)) (hq : iK q) : z_ok (k_Fl_countDown_69 x1 t0 t1 q) (fun o : Int32 × z_Sg => iK o.2 ∧ y_in o.1 (-1) (13)) := by
  unfold k_Fl_countDown_69
  refine z_ok_i (fun c61680 => ?_) (fun c61680 => ?_)
  · exact t_k_Fl_countDown_72 x1 q hq
  · exact t_k_Fl_countDown_76 x1 q hq

set_option maxHeartbeats 4000000 in
set_option maxRecDepth 100000 in
theorem t_k_Fl_countDown_30 (x1 : Int64) (t0 : Int32) (q : z_Sg) (ht0 : y_in t0 (0) (1)) (hq : iK q) : z_ok (k_Fl_countDown_30 x1 t0 q) (fun o : Int32 × z_Sg => iK o.2 ∧ y_in o.1 (-1) (13)) := by
  unfold k_Fl_countDown_30
  refine z_ok_i (fun c61681 => ?_) (fun c61681 => ?_)
  · exact t_k_Fl_countDown_76 x1 q hq
  · refine z_ok_i (fun c61682 => ?_) (fun c61682 => ?_)
    · have z61683 : y_in (z_gI q 11) (226) (226) := z_w (z_eq1 c61682 (show y_in (226 : Int32) (226) (226) from ⟨by decide, by decide⟩)) (by decide) (by decide)
      exact t_k_Fl_countDown_72 x1 q hq
    · refine z_ok_i (fun c61684 => ?_) (fun c61684 => ?_)
      · have z61685 : y_in (z_gI q 11) (225) (225) := z_w (z_eq1 c61684 (show y_in (225 : Int32) (225) (225) from ⟨by decide, by decide⟩)) (by decide) (by decide)
        exact t_k_Fl_countDown_69 x1 t0 (1 : Int32) q ht0 (z_w (show y_in (1 : Int32) (1) (1) from ⟨by decide, by decide⟩) (by decide) (by decide)) hq
      · exact t_k_Fl_countDown_69 x1 t0 (0 : Int32) q ht0 (z_w (show y_in (0 : Int32) (0) (0) from ⟨by decide, by decide⟩) (by decide) (by decide)) hq

set_option maxHeartbeats 4000000 in
set_option maxRecDepth 100000 in
theorem t_f_Fl_countDown (q : z_Sg) (hq : iK q) : z_ok (f_Fl_countDown q) (fun o : Int32 × z_Sg => iK o.2 ∧ y_in o.1 (-1) (13)) := by
  unfold f_Fl_countDown
  refine z_ok_g (z_nbad (z_w (show y_in (1 : Int32) (1) (1) from ⟨by decide, by decide⟩) (by decide) (Int.le_refl _)) (by decide)) ?_
  refine z_ok_n (fun n2 en2 => ?_)
  refine z_ok_i (fun c61686 => ?_) (fun c61686 => ?_)
  · have z61687 : y_in ((z_gI q 0) &&& (64 : Int32)) (0) (0) := z_w (z_eq1 c61686 (show y_in (0 : Int32) (0) (0) from ⟨by decide, by decide⟩)) (by decide) (by decide)
    exact t_k_Fl_countDown_30 n2 (0 : Int32) q (z_w (show y_in (0 : Int32) (0) (0) from ⟨by decide, by decide⟩) (by decide) (by decide)) hq
  · have z61688 : y_in ((z_gI q 0) &&& (64 : Int32)) (1) (64) := z_w (z_ne1 c61686 (z_and (show y_in (64 : Int32) (64) (64) from ⟨by decide, by decide⟩) (by decide)) (by decide)) (by decide) (by decide)
    exact t_k_Fl_countDown_30 n2 (1 : Int32) q (z_w (show y_in (1 : Int32) (1) (1) from ⟨by decide, by decide⟩) (by decide) (by decide)) hq

set_option maxHeartbeats 4000000 in
set_option maxRecDepth 100000 in
theorem t_k_Fl_call_37 (x3 : Int32) (q : z_Sg) (hx3 : y_in x3 (-1) (14)) (hq : iK q) : z_ok (k_Fl_call_37 x3 q) (fun o : Int32 × z_Sg => iK o.2 ∧ y_in o.1 (-1) (14)) := by
  unfold k_Fl_call_37
  exact z_ok_s ⟨hq, hx3⟩

set_option maxHeartbeats 4000000 in
set_option maxRecDepth 100000 in
theorem t_f_Fl_call (x1 : Int64) (q : z_Sg) (hq : iK q) : z_ok (f_Fl_call x1 q) (fun o : Int32 × z_Sg => iK o.2 ∧ y_in o.1 (-1) (14)) := by
  unfold f_Fl_call
  refine z_ok_b (t_f_Pa_isWrong x1 q hq) (fun r1 hr1 => ?_)
  refine z_ok_i (fun c61689 => ?_) (fun c61689 => ?_)
  · have z61690 : y_in r1 (0) (0) := z_w (z_eq1 c61689 (show y_in (0 : Int32) (0) (0) from ⟨by decide, by decide⟩)) (by decide) (by decide)
    refine z_ok_b (t_f_Fl_push (z_gL q 10) (8 : Int32) q (z_w (show y_in (8 : Int32) (8) (8) from ⟨by decide, by decide⟩) (by decide) (by decide)) hq) (fun r3 hr3 => ?_)
    refine z_ok_i (fun c61691 => ?_) (fun c61691 => ?_)
    · have z61692 : y_in r3.1 (-1) (-1) := z_w (z_eq1 c61691 (show y_in (-1 : Int32) (-1) (-1) from ⟨by decide, by decide⟩)) (by decide) (by decide)
      refine z_ok_n (fun q5 eq5 => ?_)
      have hq5 : iK q5 := by rw [eq5]; exact (iK_sL hr3.1)
      exact t_k_Fl_call_37 r3.1 q5 (z_w z61692 (by decide) (by decide)) hq5
    · have z61693 : y_in r3.1 (0) (14) := z_w (z_ne1 c61691 hr3.2 (by decide)) (by decide) (by decide)
      exact t_k_Fl_call_37 r3.1 r3.2 (z_w z61693 (by decide) (by decide)) hr3.1
  · have z61694 : y_in r1 (1) (1) := z_w (z_ne1 c61689 hr1 (by decide)) (by decide) (by decide)
    exact z_ok_s ⟨hq, (z_w (show y_in (13 : Int32) (13) (13) from ⟨by decide, by decide⟩) (by decide) (by decide))⟩

set_option maxHeartbeats 4000000 in
set_option maxRecDepth 100000 in
theorem t_kb_Sp_value_7_4 (ih4 : Int64 × Int32 → Option Int64) (x1 : Int64) (x3 : Int32) (q : z_Sg) (hi4 : ∀ (x1' : Int64) (x3' : Int32), y_in x3' (0) (8) → (8 - x3'.toInt).toNat < (8 - x3.toInt).toNat → z_ok (ih4 (x1', x3')) (fun _ : Int64 => True)) (hx3 : y_in x3 (0) (8)) (hq : iK q) : z_ok (kb_Sp_value_7_4 ih4 x1 x3 q) (fun _ : Int64 => True) := by
  unfold kb_Sp_value_7_4
  refine z_ok_i (fun c61695 => ?_) (fun c61695 => ?_)
  · exact z_ok_s trivial
  · have z61696 : y_in (z_gI q 16) (1) (8) := z_w (z_nle1 c61695 (iK_f16 hq) hx3) (by decide) (by decide)
    have z61697 : y_in x3 (0) (7) := z_w (z_nle2 c61695 (iK_f16 hq) hx3) (by decide) (by decide)
    refine z_ok_g (z_nbad z61697 (by decide)) ?_
    refine z_ok_b (t_f_Pa_byteAt (z_gM q 2 x3.toNatClampNeg) q hq) (fun r3 hr3 => ?_)
    refine z_ok_n (fun n4 en4 => ?_)
    refine z_ok_n (fun n5 en5 => ?_)
    have hn5 : y_in n5 (1) (8) := z_e en5 (z_w (a' := 1) (b' := 8) (z_add z61697 (show y_in (1 : Int32) (1) (1) from ⟨by decide, by decide⟩) (by decide) (by decide)) (by decide) (by decide))
    exact hi4 n4 n5 (z_w hn5 (by decide) (by decide)) (z_mu (8) 1 z61697 en5 (by decide) (by decide) (by decide) (by decide))

set_option maxHeartbeats 4000000 in
set_option maxRecDepth 100000 in
theorem t_k_Sp_value_7_4 (x1 : Int64) (x3 : Int32) (q : z_Sg) (hx1 : y_il x1 (0) (0)) (hx3 : y_in x3 (0) (0)) (hq : iK q) : z_ok (k_Sp_value_7_4 x1 x3 q) (fun _ : Int64 => True) := by
  unfold k_Sp_value_7_4
  refine z_ok_l (fun a : Int64 × Int32 => y_in a.2 (0) (8)) (fun a => (8 - a.2.toInt).toNat) ?_ (x1, x3) (z_w hx3 (by decide) (by decide)) (by show ((8 - x3.toInt).toNat) < 2000; have z1 := hx3.1; have z2 := hx3.2; omega)
  intro ih a ha hih
  exact t_kb_Sp_value_7_4 ih a.1 a.2 q (fun x1' x3' hx3' hm => hih (x1', x3') hx3' hm) ha hq

set_option maxHeartbeats 4000000 in
set_option maxRecDepth 100000 in
theorem t_f_Sp_value_7 (q : z_Sg) (hq : iK q) : z_ok (f_Sp_value_7 q) (fun _ : Int64 => True) := by
  unfold f_Sp_value_7
  exact t_k_Sp_value_7_4 (0 : Int64) (0 : Int32) q (show y_il (0 : Int64) (0) (0) from ⟨by decide, by decide⟩) (show y_in (0 : Int32) (0) (0) from ⟨by decide, by decide⟩) hq

set_option maxHeartbeats 4000000 in
set_option maxRecDepth 100000 in
theorem t_k_Op_value_36 (t0 : Int64) (q : z_Sg) (hq : iK q) : z_ok (k_Op_value_36 t0 q) (fun _ : Int64 => True) := by
  unfold k_Op_value_36
  exact z_ok_s trivial

set_option maxHeartbeats 4000000 in
set_option maxRecDepth 100000 in
theorem t_f_Op_value (q : z_Sg) (hq : iK q) : z_ok (f_Op_value q) (fun _ : Int64 => True) := by
  unfold f_Op_value
  refine z_ok_i (fun c61698 => ?_) (fun c61698 => ?_)
  · have z61699 : y_in (z_gI q 12) (3) (3) := z_w (z_eq1 c61698 (show y_in (3 : Int32) (3) (3) from ⟨by decide, by decide⟩)) (by decide) (by decide)
    refine z_ok_b (t_f_De_registerE q hq) (fun r3 hr3 => ?_)
    refine z_ok_b (t_f_Op_part r3 (z_gI q 15) q hr3 (iK_f15 hq) hq) (fun r4 hr4 => ?_)
    exact t_k_Op_value_36 r4 q hq
  · refine z_ok_b (t_f_Sp_value_7 q hq) (fun r2 hr2 => ?_)
    exact t_k_Op_value_36 r2 q hq

set_option maxHeartbeats 4000000 in
set_option maxRecDepth 100000 in
theorem t_f_Fl_enterSystem (q : z_Sg) (hq : iK q) : z_ok (f_Fl_enterSystem q) (fun o : Int32 × z_Sg => iK o.2 ∧ y_in o.1 (-1) (-1)) := by
  unfold f_Fl_enterSystem
  refine z_ok_g (z_nbad (z_w (show y_in (1 : Int32) (1) (1) from ⟨by decide, by decide⟩) (by decide) (Int.le_refl _)) (by decide)) ?_
  refine z_ok_n (fun q2 eq2 => ?_)
  have hq2 : iK q2 := by rw [eq2]; exact (iK_sM hq)
  refine z_ok_g (z_nbad (z_w (show y_in (11 : Int32) (11) (11) from ⟨by decide, by decide⟩) (by decide) (Int.le_refl _)) (by decide)) ?_
  refine z_ok_n (fun q4 eq4 => ?_)
  have hq4 : iK q4 := by rw [eq4]; exact (iK_sM hq2)
  refine z_ok_n (fun q5 eq5 => ?_)
  have hq5 : iK q5 := by rw [eq5]; exact (iK_sL hq4)
  refine z_ok_n (fun q6 eq6 => ?_)
  have hq6 : iK q6 := by rw [eq6]; exact (iK_sI0 hq5)
  refine z_ok_n (fun q7 eq7 => ?_)
  have hq7 : iK q7 := by rw [eq7]; exact (iK_sI2 hq6 (z_w (show y_in (0 : Int32) (0) (0) from ⟨by decide, by decide⟩) (by decide) (by decide)))
  exact z_ok_s ⟨hq7, (show y_in (-1 : Int32) (-1) (-1) from ⟨by decide, by decide⟩)⟩

set_option maxHeartbeats 4000000 in
set_option maxRecDepth 100000 in
theorem t_k_Fl_leaveSystem_64 (x1 : Int32) (q : z_Sg) (hx1 : y_in x1 (-1) (13)) (hq : iK q) : z_ok (k_Fl_leaveSystem_64 x1 q) (fun o : Int32 × z_Sg => iK o.2 ∧ y_in o.1 (-1) (13)) := by
  unfold k_Fl_leaveSystem_64
  exact z_ok_s ⟨hq, hx1⟩

set_option maxHeartbeats 4000000 in
set_option maxRecDepth 100000 in
theorem t_k_Fl_leaveSystem_28 (t0 : Int32) (q : z_Sg) (ht0 : y_in t0 (-1) (13)) (hq : iK q) : z_ok (k_Fl_leaveSystem_28 t0 q) (fun o : Int32 × z_Sg => iK o.2 ∧ y_in o.1 (-1) (13)) := by
  unfold k_Fl_leaveSystem_28
  refine z_ok_i (fun c61700 => ?_) (fun c61700 => ?_)
  · have z61701 : y_in t0 (-1) (-1) := z_w (z_eq1 c61700 (show y_in (-1 : Int32) (-1) (-1) from ⟨by decide, by decide⟩)) (by decide) (by decide)
    refine z_ok_g (z_nbad (z_w (show y_in (11 : Int32) (11) (11) from ⟨by decide, by decide⟩) (by decide) (Int.le_refl _)) (by decide)) ?_
    refine z_ok_n (fun q6 eq6 => ?_)
    have hq6 : iK q6 := by rw [eq6]; exact (iK_sI0 hq)
    refine z_ok_n (fun q7 eq7 => ?_)
    have hq7 : iK q7 := by rw [eq7]; exact (iK_sI2 hq6 (z_w (show y_in (1 : Int32) (1) (1) from ⟨by decide, by decide⟩) (by decide) (by decide)))
    exact t_k_Fl_leaveSystem_64 t0 q7 (z_w z61701 (by decide) (by decide)) hq7
  · have z61702 : y_in t0 (0) (13) := z_w (z_ne1 c61700 ht0 (by decide)) (by decide) (by decide)
    exact t_k_Fl_leaveSystem_64 t0 q (z_w z61702 (by decide) (by decide)) hq

set_option maxHeartbeats 4000000 in
set_option maxRecDepth 100000 in
theorem t_f_Fl_leaveSystem (q : z_Sg) (hq : iK q) : z_ok (f_Fl_leaveSystem q) (fun o : Int32 × z_Sg => iK o.2 ∧ y_in o.1 (-1) (13)) := by
  unfold f_Fl_leaveSystem
  refine z_ok_i (fun c61703 => ?_) (fun c61703 => ?_)
  · have z61704 : y_in (z_gI q 2) (0) (0) := z_w (z_eq1 c61703 (show y_in (0 : Int32) (0) (0) from ⟨by decide, by decide⟩)) (by decide) (by decide)
    refine z_ok_g (z_nbad (z_w (show y_in (1 : Int32) (1) (1) from ⟨by decide, by decide⟩) (by decide) (Int.le_refl _)) (by decide)) ?_
    refine z_ok_b (t_f_Fl_jump (z_gM q 0 (1 : Int32).toNatClampNeg) q hq) (fun r3 hr3 => ?_)
    exact t_k_Fl_leaveSystem_28 r3.1 r3.2 hr3.2 hr3.1
  · have z61705 : y_in (z_gI q 2) (1) (1) := z_w (z_ne1 c61703 (iK_f2 hq) (by decide)) (by decide) (by decide)
    exact t_k_Fl_leaveSystem_28 (13 : Int32) q (z_w (show y_in (13 : Int32) (13) (13) from ⟨by decide, by decide⟩) (by decide) (by decide)) hq

set_option maxHeartbeats 4000000 in
set_option maxRecDepth 100000 in
theorem t_k_Fl_execute_148 (t0 : Int32) (q : z_Sg) (ht0 : y_in t0 (-1) (13)) (hq : iK q) : z_ok (k_Fl_execute_148 t0 q) (fun o : Int32 × z_Sg => iK o.2 ∧ y_in o.1 (-2) (15)) := by
  unfold k_Fl_execute_148
  exact z_ok_s ⟨hq, (z_w ht0 (by decide) (by decide))⟩

set_option maxHeartbeats 4000000 in
set_option maxRecDepth 100000 in
theorem t_k_Fl_execute_108 (q : z_Sg) (hq : iK q) : z_ok (k_Fl_execute_108 q) (fun o : Int32 × z_Sg => iK o.2 ∧ y_in o.1 (-2) (15)) := by
  unfold k_Fl_execute_108
  refine z_ok_b (t_f_Ar_holds (z_gI q 11) q (z_w (iK_f11 hq) (by decide) (by decide)) hq) (fun r10 hr10 => ?_)
  refine z_ok_i (fun c61706 => ?_) (fun c61706 => ?_)
  · have z61707 : y_in r10 (0) (0) := z_w (z_eq1 c61706 (show y_in (0 : Int32) (0) (0) from ⟨by decide, by decide⟩)) (by decide) (by decide)
    exact t_k_Fl_execute_148 (-1 : Int32) q (z_w (show y_in (-1 : Int32) (-1) (-1) from ⟨by decide, by decide⟩) (by decide) (by decide)) hq
  · have z61708 : y_in r10 (1) (1) := z_w (z_ne1 c61706 hr10 (by decide)) (by decide) (by decide)
    refine z_ok_b (t_f_Fl_jump ((z_gL q 10) + (z_gL q 9)) q hq) (fun r12 hr12 => ?_)
    exact t_k_Fl_execute_148 r12.1 r12.2 hr12.2 hr12.1

set_option maxHeartbeats 4000000 in
set_option maxRecDepth 100000 in
theorem t_k_Fl_execute_312 (q : z_Sg) (hq : iK q) : z_ok (k_Fl_execute_312 q) (fun o : Int32 × z_Sg => iK o.2 ∧ y_in o.1 (-2) (15)) := by
  unfold k_Fl_execute_312
  refine z_ok_b (t_f_De_sizeOnStack q hq) (fun r17 hr17 => ?_)
  refine z_ok_b (t_f_Fl_push (z_gL q 9) r17 q hr17 hq) (fun r18 hr18 => ?_)
  exact z_ok_s ⟨hr18.1, (z_w hr18.2 (by decide) (by decide))⟩

set_option maxHeartbeats 4000000 in
set_option maxRecDepth 100000 in
theorem t_k_Fl_execute_360 (t0 : Int32) (q : z_Sg) (ht0 : y_in t0 (-1) (14)) (hq : iK q) : z_ok (k_Fl_execute_360 t0 q) (fun o : Int32 × z_Sg => iK o.2 ∧ y_in o.1 (-2) (15)) := by
  unfold k_Fl_execute_360
  exact z_ok_s ⟨hq, (z_w ht0 (by decide) (by decide))⟩

set_option maxHeartbeats 4000000 in
set_option maxRecDepth 100000 in
theorem t_k_Fl_execute_388 (q : z_Sg) (hq : iK q) : z_ok (k_Fl_execute_388 q) (fun o : Int32 × z_Sg => iK o.2 ∧ y_in o.1 (-2) (15)) := by
  unfold k_Fl_execute_388
  refine z_ok_b (t_f_Fl_comeBack q hq) (fun r31 hr31 => ?_)
  exact z_ok_s ⟨hr31.1, (z_w hr31.2 (by decide) (by decide))⟩

set_option maxHeartbeats 4000000 in
set_option maxRecDepth 100000 in
theorem t_k_Fl_execute_398 (q : z_Sg) (hq : iK q) : z_ok (k_Fl_execute_398 q) (fun o : Int32 × z_Sg => iK o.2 ∧ y_in o.1 (-2) (15)) := by
  unfold k_Fl_execute_398
  refine z_ok_b (t_f_Fl_countDown q hq) (fun r36 hr36 => ?_)
  exact z_ok_s ⟨hr36.1, (z_w hr36.2 (by decide) (by decide))⟩

set_option maxHeartbeats 4000000 in
set_option maxRecDepth 100000 in
theorem t_k_Fl_execute_440 (t0 : Int32) (q : z_Sg) (ht0 : y_in t0 (-1) (13)) (hq : iK q) : z_ok (k_Fl_execute_440 t0 q) (fun o : Int32 × z_Sg => iK o.2 ∧ y_in o.1 (-2) (15)) := by
  unfold k_Fl_execute_440
  exact z_ok_s ⟨hq, (z_w ht0 (by decide) (by decide))⟩

set_option maxHeartbeats 4000000 in
set_option maxRecDepth 100000 in
theorem t_k_Fl_execute_461 (q : z_Sg) (hq : iK q) : z_ok (k_Fl_execute_461 q) (fun o : Int32 × z_Sg => iK o.2 ∧ y_in o.1 (-2) (15)) := by
  unfold k_Fl_execute_461
  refine z_ok_b (t_f_Fl_jump ((z_gL q 10) + (z_gL q 9)) q hq) (fun r46 hr46 => ?_)
  exact z_ok_s ⟨hr46.1, (z_w hr46.2 (by decide) (by decide))⟩

set_option maxHeartbeats 4000000 in
set_option maxRecDepth 100000 in
theorem t_k_Fl_execute_566 (t0 : Int32) (q : z_Sg) (ht0 : y_in t0 (-2) (14)) (hq : iK q) : z_ok (k_Fl_execute_566 t0 q) (fun o : Int32 × z_Sg => iK o.2 ∧ y_in o.1 (-2) (15)) := by
  unfold k_Fl_execute_566
  exact z_ok_s ⟨hq, (z_w ht0 (by decide) (by decide))⟩

set_option maxHeartbeats 4000000 in
set_option maxRecDepth 100000 in
theorem t_f_Fl_execute (q : z_Sg) (hq : iK q) : z_ok (f_Fl_execute q) (fun o : Int32 × z_Sg => iK o.2 ∧ y_in o.1 (-2) (15)) := by
  unfold f_Fl_execute
  refine z_ok_i (fun c61709 => ?_) (fun c61709 => ?_)
  · have z61710 : y_in ((z_gI q 11) &&& (-8 : Int32)) (80) (80) := z_w (z_eq1 c61709 (show y_in (80 : Int32) (80) (80) from ⟨by decide, by decide⟩)) (by decide) (by decide)
    refine z_ok_b (t_f_De_registerO q hq) (fun r2 hr2 => ?_)
    refine z_ok_b (t_f_Op_part r2 (8 : Int32) q hr2 (z_w (show y_in (8 : Int32) (8) (8) from ⟨by decide, by decide⟩) (by decide) (by decide)) hq) (fun r3 hr3 => ?_)
    refine z_ok_b (t_f_De_sizeOnStack q hq) (fun r4 hr4 => ?_)
    refine z_ok_b (t_f_Fl_push r3 r4 q hr4 hq) (fun r5 hr5 => ?_)
    exact z_ok_s ⟨hr5.1, (z_w hr5.2 (by decide) (by decide))⟩
  · refine z_ok_i (fun c61711 => ?_) (fun c61711 => ?_)
    · have z61712 : y_in ((z_gI q 11) &&& (-8 : Int32)) (88) (88) := z_w (z_eq1 c61711 (show y_in (88 : Int32) (88) (88) from ⟨by decide, by decide⟩)) (by decide) (by decide)
      refine z_ok_b (t_f_De_registerO q hq) (fun r7 hr7 => ?_)
      refine z_ok_b (t_f_Fl_popRegister r7 q hr7 hq) (fun r8 hr8 => ?_)
      exact z_ok_s ⟨hr8.1, (z_w hr8.2 (by decide) (by decide))⟩
    · refine z_ok_i (fun c61713 => ?_) (fun c61713 => ?_)
      · have z61714 : y_in ((z_gI q 11) &&& (-8 : Int32)) (112) (112) := z_w (z_eq1 c61713 (show y_in (112 : Int32) (112) (112) from ⟨by decide, by decide⟩)) (by decide) (by decide)
        exact t_k_Fl_execute_108 q hq
      · refine z_ok_i (fun c61715 => ?_) (fun c61715 => ?_)
        · have z61716 : y_in ((z_gI q 11) &&& (-8 : Int32)) (120) (120) := z_w (z_eq1 c61715 (show y_in (120 : Int32) (120) (120) from ⟨by decide, by decide⟩)) (by decide) (by decide)
          exact t_k_Fl_execute_108 q hq
        · refine z_ok_i (fun c61717 => ?_) (fun c61717 => ?_)
          · have z61718 : y_in ((z_gI q 11) &&& (-8 : Int32)) (384) (384) := z_w (z_eq1 c61717 (show y_in (384 : Int32) (384) (384) from ⟨by decide, by decide⟩)) (by decide) (by decide)
            exact t_k_Fl_execute_108 q hq
          · refine z_ok_i (fun c61719 => ?_) (fun c61719 => ?_)
            · have z61720 : y_in ((z_gI q 11) &&& (-8 : Int32)) (392) (392) := z_w (z_eq1 c61719 (show y_in (392 : Int32) (392) (392) from ⟨by decide, by decide⟩)) (by decide) (by decide)
              exact t_k_Fl_execute_108 q hq
            · refine z_ok_i (fun c61721 => ?_) (fun c61721 => ?_)
              · have z61722 : y_in (z_gI q 11) (104) (104) := z_w (z_eq1 c61721 (show y_in (104 : Int32) (104) (104) from ⟨by decide, by decide⟩)) (by decide) (by decide)
                exact t_k_Fl_execute_312 q hq
              · refine z_ok_i (fun c61723 => ?_) (fun c61723 => ?_)
                · have z61724 : y_in (z_gI q 11) (106) (106) := z_w (z_eq1 c61723 (show y_in (106 : Int32) (106) (106) from ⟨by decide, by decide⟩)) (by decide) (by decide)
                  exact t_k_Fl_execute_312 q hq
                · refine z_ok_i (fun c61725 => ?_) (fun c61725 => ?_)
                  · have z61726 : y_in (z_gI q 11) (143) (143) := z_w (z_eq1 c61725 (show y_in (143 : Int32) (143) (143) from ⟨by decide, by decide⟩)) (by decide) (by decide)
                    refine z_ok_i (fun c61727 => ?_) (fun c61727 => ?_)
                    · have z61728 : y_in (z_gI q 12) (3) (3) := z_w (z_eq1 c61727 (show y_in (3 : Int32) (3) (3) from ⟨by decide, by decide⟩)) (by decide) (by decide)
                      refine z_ok_b (t_f_De_registerE q hq) (fun r23 hr23 => ?_)
                      refine z_ok_b (t_f_Fl_popRegister r23 q hr23 hq) (fun r24 hr24 => ?_)
                      exact t_k_Fl_execute_360 r24.1 r24.2 hr24.2 hr24.1
                    · refine z_ok_b (t_f_Fl_popMemory q hq) (fun r22 hr22 => ?_)
                      exact t_k_Fl_execute_360 r22.1 r22.2 hr22.2 hr22.1
                  · refine z_ok_i (fun c61729 => ?_) (fun c61729 => ?_)
                    · have z61730 : y_in (z_gI q 11) (156) (156) := z_w (z_eq1 c61729 (show y_in (156 : Int32) (156) (156) from ⟨by decide, by decide⟩)) (by decide) (by decide)
                      refine z_ok_b (t_f_De_sizeOnStack q hq) (fun r26 hr26 => ?_)
                      refine z_ok_b (t_f_Fl_push ((z_gI q 0) ||| (2 : Int32)).toInt64 r26 q hr26 hq) (fun r27 hr27 => ?_)
                      exact z_ok_s ⟨hr27.1, (z_w hr27.2 (by decide) (by decide))⟩
                    · refine z_ok_i (fun c61731 => ?_) (fun c61731 => ?_)
                      · have z61732 : y_in (z_gI q 11) (157) (157) := z_w (z_eq1 c61731 (show y_in (157 : Int32) (157) (157) from ⟨by decide, by decide⟩)) (by decide) (by decide)
                        refine z_ok_b (t_f_Fl_popFlags q hq) (fun r29 hr29 => ?_)
                        exact z_ok_s ⟨hr29.1, (z_w hr29.2 (by decide) (by decide))⟩
                      · refine z_ok_i (fun c61733 => ?_) (fun c61733 => ?_)
                        · have z61734 : y_in (z_gI q 11) (194) (194) := z_w (z_eq1 c61733 (show y_in (194 : Int32) (194) (194) from ⟨by decide, by decide⟩)) (by decide) (by decide)
                          exact t_k_Fl_execute_388 q hq
                        · refine z_ok_i (fun c61735 => ?_) (fun c61735 => ?_)
                          · have z61736 : y_in (z_gI q 11) (195) (195) := z_w (z_eq1 c61735 (show y_in (195 : Int32) (195) (195) from ⟨by decide, by decide⟩)) (by decide) (by decide)
                            exact t_k_Fl_execute_388 q hq
                          · refine z_ok_i (fun c61737 => ?_) (fun c61737 => ?_)
                            · have z61738 : y_in (z_gI q 11) (201) (201) := z_w (z_eq1 c61737 (show y_in (201 : Int32) (201) (201) from ⟨by decide, by decide⟩)) (by decide) (by decide)
                              refine z_ok_b (t_f_Fl_leave q hq) (fun r34 hr34 => ?_)
                              exact z_ok_s ⟨hr34.1, (z_w hr34.2 (by decide) (by decide))⟩
                            · refine z_ok_i (fun c61739 => ?_) (fun c61739 => ?_)
                              · have z61740 : y_in (z_gI q 11) (224) (224) := z_w (z_eq1 c61739 (show y_in (224 : Int32) (224) (224) from ⟨by decide, by decide⟩)) (by decide) (by decide)
                                exact t_k_Fl_execute_398 q hq
                              · refine z_ok_i (fun c61741 => ?_) (fun c61741 => ?_)
                                · have z61742 : y_in (z_gI q 11) (225) (225) := z_w (z_eq1 c61741 (show y_in (225 : Int32) (225) (225) from ⟨by decide, by decide⟩)) (by decide) (by decide)
                                  exact t_k_Fl_execute_398 q hq
                                · refine z_ok_i (fun c61743 => ?_) (fun c61743 => ?_)
                                  · have z61744 : y_in (z_gI q 11) (226) (226) := z_w (z_eq1 c61743 (show y_in (226 : Int32) (226) (226) from ⟨by decide, by decide⟩)) (by decide) (by decide)
                                    exact t_k_Fl_execute_398 q hq
                                  · refine z_ok_i (fun c61745 => ?_) (fun c61745 => ?_)
                                    · have z61746 : y_in (z_gI q 11) (227) (227) := z_w (z_eq1 c61745 (show y_in (227 : Int32) (227) (227) from ⟨by decide, by decide⟩)) (by decide) (by decide)
                                      refine z_ok_g (z_nbad (z_w (show y_in (1 : Int32) (1) (1) from ⟨by decide, by decide⟩) (by decide) (Int.le_refl _)) (by decide)) ?_
                                      refine z_ok_i (fun c61747 => ?_) (fun c61747 => ?_)
                                      · refine z_ok_b (t_f_Fl_jump ((z_gL q 10) + (z_gL q 9)) q hq) (fun r42 hr42 => ?_)
                                        exact t_k_Fl_execute_440 r42.1 r42.2 hr42.2 hr42.1
                                      · exact t_k_Fl_execute_440 (-1 : Int32) q (z_w (show y_in (-1 : Int32) (-1) (-1) from ⟨by decide, by decide⟩) (by decide) (by decide)) hq
                                    · refine z_ok_i (fun c61748 => ?_) (fun c61748 => ?_)
                                      · have z61749 : y_in (z_gI q 11) (232) (232) := z_w (z_eq1 c61748 (show y_in (232 : Int32) (232) (232) from ⟨by decide, by decide⟩)) (by decide) (by decide)
                                        refine z_ok_b (t_f_Fl_call ((z_gL q 10) + (z_gL q 9)) q hq) (fun r44 hr44 => ?_)
                                        exact z_ok_s ⟨hr44.1, (z_w hr44.2 (by decide) (by decide))⟩
                                      · refine z_ok_i (fun c61750 => ?_) (fun c61750 => ?_)
                                        · have z61751 : y_in (z_gI q 11) (233) (233) := z_w (z_eq1 c61750 (show y_in (233 : Int32) (233) (233) from ⟨by decide, by decide⟩)) (by decide) (by decide)
                                          exact t_k_Fl_execute_461 q hq
                                        · refine z_ok_i (fun c61752 => ?_) (fun c61752 => ?_)
                                          · have z61753 : y_in (z_gI q 11) (235) (235) := z_w (z_eq1 c61752 (show y_in (235 : Int32) (235) (235) from ⟨by decide, by decide⟩)) (by decide) (by decide)
                                            exact t_k_Fl_execute_461 q hq
                                          · refine z_ok_i (fun c61754 => ?_) (fun c61754 => ?_)
                                            · have z61755 : y_in (z_gI q 11) (255) (255) := z_w (z_eq1 c61754 (show y_in (255 : Int32) (255) (255) from ⟨by decide, by decide⟩)) (by decide) (by decide)
                                              refine z_ok_i (fun c61756 => ?_) (fun c61756 => ?_)
                                              · have z61757 : y_in (z_gI q 13) (2) (2) := z_w (z_eq1 c61756 (show y_in (2 : Int32) (2) (2) from ⟨by decide, by decide⟩)) (by decide) (by decide)
                                                refine z_ok_b (t_f_Op_value q hq) (fun r57 hr57 => ?_)
                                                refine z_ok_b (t_f_Fl_call r57 q hq) (fun r58 hr58 => ?_)
                                                exact t_k_Fl_execute_566 r58.1 r58.2 (z_w hr58.2 (by decide) (by decide)) hr58.1
                                              · refine z_ok_i (fun c61758 => ?_) (fun c61758 => ?_)
                                                · have z61759 : y_in (z_gI q 13) (4) (4) := z_w (z_eq1 c61758 (show y_in (4 : Int32) (4) (4) from ⟨by decide, by decide⟩)) (by decide) (by decide)
                                                  refine z_ok_b (t_f_Op_value q hq) (fun r55 hr55 => ?_)
                                                  refine z_ok_b (t_f_Fl_jump r55 q hq) (fun r56 hr56 => ?_)
                                                  exact t_k_Fl_execute_566 r56.1 r56.2 (z_w hr56.2 (by decide) (by decide)) hr56.1
                                                · refine z_ok_i (fun c61760 => ?_) (fun c61760 => ?_)
                                                  · have z61761 : y_in (z_gI q 13) (6) (6) := z_w (z_eq1 c61760 (show y_in (6 : Int32) (6) (6) from ⟨by decide, by decide⟩)) (by decide) (by decide)
                                                    refine z_ok_b (t_f_Op_value q hq) (fun r52 hr52 => ?_)
                                                    refine z_ok_b (t_f_De_sizeOnStack q hq) (fun r53 hr53 => ?_)
                                                    refine z_ok_b (t_f_Fl_push r52 r53 q hr53 hq) (fun r54 hr54 => ?_)
                                                    exact t_k_Fl_execute_566 r54.1 r54.2 (z_w hr54.2 (by decide) (by decide)) hr54.1
                                                  · exact t_k_Fl_execute_566 (-2 : Int32) q (z_w (show y_in (-2 : Int32) (-2) (-2) from ⟨by decide, by decide⟩) (by decide) (by decide)) hq
                                            · refine z_ok_i (fun c61762 => ?_) (fun c61762 => ?_)
                                              · have z61763 : y_in (z_gI q 11) (261) (261) := z_w (z_eq1 c61762 (show y_in (261 : Int32) (261) (261) from ⟨by decide, by decide⟩)) (by decide) (by decide)
                                                refine z_ok_b (t_f_Fl_enterSystem q hq) (fun r60 hr60 => ?_)
                                                exact z_ok_s ⟨hr60.1, (z_w hr60.2 (by decide) (by decide))⟩
                                              · refine z_ok_i (fun c61764 => ?_) (fun c61764 => ?_)
                                                · have z61765 : y_in (z_gI q 11) (263) (263) := z_w (z_eq1 c61764 (show y_in (263 : Int32) (263) (263) from ⟨by decide, by decide⟩)) (by decide) (by decide)
                                                  refine z_ok_b (t_f_Fl_leaveSystem q hq) (fun r62 hr62 => ?_)
                                                  exact z_ok_s ⟨hr62.1, (z_w hr62.2 (by decide) (by decide))⟩
                                                · exact z_ok_s ⟨hq, (z_w (show y_in (-2 : Int32) (-2) (-2) from ⟨by decide, by decide⟩) (by decide) (by decide))⟩

set_option maxHeartbeats 4000000 in
set_option maxRecDepth 100000 in
theorem t_f_De_registerG (q : z_Sg) (hq : iK q) : z_ok (f_De_registerG q) (fun o : Int32 => y_in o (0) (15)) := by
  unfold f_De_registerG
  refine z_ok_b (t_f_De_extension (4 : Int32) q (z_w (show y_in (4 : Int32) (4) (4) from ⟨by decide, by decide⟩) (by decide) (by decide)) hq) (fun r1 hr1 => ?_)
  exact z_ok_s (z_w (a' := 0) (b' := 15) (z_or 4 (iK_f13 hq) hr1 (by decide) (by decide) (by decide) (by decide) (by decide)) (by decide) (by decide))

set_option maxHeartbeats 4000000 in
set_option maxRecDepth 100000 in
theorem t_f_Op_g (x1 : Int32) (q : z_Sg) (hx1 : y_in x1 (0) (8)) (hq : iK q) : z_ok (f_Op_g x1 q) (fun _ : Int64 => True) := by
  unfold f_Op_g
  refine z_ok_b (t_f_De_registerG q hq) (fun r1 hr1 => ?_)
  refine z_ok_b (t_f_Op_part r1 x1 q hr1 hx1 hq) (fun r2 hr2 => ?_)
  exact z_ok_s trivial

set_option maxHeartbeats 4000000 in
set_option maxRecDepth 100000 in
theorem t_f_Op_putG (x1 : Int64) (x3 : Int32) (q : z_Sg) (hx3 : y_in x3 (0) (8)) (hq : iK q) : z_ok (f_Op_putG x1 x3 q) (fun o : z_Sg => iK o) := by
  unfold f_Op_putG
  refine z_ok_b (t_f_De_registerG q hq) (fun r1 hr1 => ?_)
  refine z_ok_b (t_f_Op_putPart r1 x1 x3 q hr1 hx3 hq) (fun r2 hr2 => ?_)
  exact z_ok_s hr2

set_option maxHeartbeats 4000000 in
set_option maxRecDepth 100000 in
theorem t_k_Tw_moveIf_34 (x2 : Int32) (t1 : Int64) (q : z_Sg) (hx2 : y_in x2 (0) (8)) (hq : iK q) : z_ok (k_Tw_moveIf_34 x2 t1 q) (fun o : z_Sg => iK o) := by
  unfold k_Tw_moveIf_34
  refine z_ok_b (t_f_Op_putG t1 x2 q hx2 hq) (fun r4 hr4 => ?_)
  exact z_ok_s hr4

set_option maxHeartbeats 4000000 in
set_option maxRecDepth 100000 in
theorem t_f_Tw_moveIf (x1 : Int32) (q : z_Sg) (hx1 : y_in x1 (0) (1)) (hq : iK q) : z_ok (f_Tw_moveIf x1 q) (fun o : z_Sg => iK o) := by
  unfold f_Tw_moveIf
  refine z_ok_n (fun n1 en1 => ?_)
  have hn1 : y_in n1 (0) (8) := z_e en1 (iK_f15 hq)
  refine z_ok_i (fun c61766 => ?_) (fun c61766 => ?_)
  · have z61767 : y_in x1 (0) (0) := z_w (z_eq1 c61766 (show y_in (0 : Int32) (0) (0) from ⟨by decide, by decide⟩)) (by decide) (by decide)
    refine z_ok_b (t_f_Op_g n1 q hn1 hq) (fun r3 hr3 => ?_)
    exact t_k_Tw_moveIf_34 n1 r3 q hn1 hq
  · have z61768 : y_in x1 (1) (1) := z_w (z_ne1 c61766 hx1 (by decide)) (by decide) (by decide)
    refine z_ok_b (t_f_Op_value q hq) (fun r5 hr5 => ?_)
    exact t_k_Tw_moveIf_34 n1 r5 q hn1 hq

set_option maxHeartbeats 4000000 in
set_option maxRecDepth 100000 in
theorem t_kb_Tw_turnBytes_30 (ih30 : Int32 × Int64 × Int64 × Int32 × z_Sg → Option z_Sg) (x1 : Int32) (x2 : Int64) (x4 : Int64) (x6 : Int32) (q : z_Sg) (hi30 : ∀ (x1' : Int32) (x2' : Int64) (x4' : Int64) (x6' : Int32) (q' : z_Sg), y_in x1' (2) (8) → y_in x6' (0) (8) → iK q' → (8 - x6'.toInt).toNat < (8 - x6.toInt).toNat → z_ok (ih30 (x1', x2', x4', x6', q')) (fun o : z_Sg => iK o)) (hx1 : y_in x1 (2) (8)) (hx6 : y_in x6 (0) (8)) (hq : iK q) : z_ok (kb_Tw_turnBytes_30 ih30 x1 x2 x4 x6 q) (fun o : z_Sg => iK o) := by
  unfold kb_Tw_turnBytes_30
  refine z_ok_i (fun c61769 => ?_) (fun c61769 => ?_)
  · have z61770 : y_in x6 (2) (8) := z_w (z_le2 c61769 hx1 hx6) (by decide) (by decide)
    refine z_ok_b (t_f_De_registerO q hq) (fun r5 hr5 => ?_)
    refine z_ok_b (t_f_Op_putPart r5 x4 x1 q hr5 (z_w hx1 (by decide) (by decide)) hq) (fun r6 hr6 => ?_)
    exact z_ok_s hr6
  · have z61771 : y_in x6 (0) (7) := z_w (z_nle2 c61769 hx1 hx6) (by decide) (by decide)
    refine z_ok_n (fun n7 en7 => ?_)
    refine z_ok_n (fun n8 en8 => ?_)
    have hn8 : y_in n8 (1) (8) := z_e en8 (z_w (a' := 1) (b' := 8) (z_add z61771 (show y_in (1 : Int32) (1) (1) from ⟨by decide, by decide⟩) (by decide) (by decide)) (by decide) (by decide))
    exact hi30 x1 x2 n7 n8 q hx1 (z_w hn8 (by decide) (by decide)) hq (z_mu (8) 1 z61771 en8 (by decide) (by decide) (by decide) (by decide))

set_option maxHeartbeats 4000000 in
set_option maxRecDepth 100000 in
theorem t_k_Tw_turnBytes_30 (x1 : Int32) (x2 : Int64) (x4 : Int64) (x6 : Int32) (q : z_Sg) (hx1 : y_in x1 (2) (8)) (hx4 : y_il x4 (0) (0)) (hx6 : y_in x6 (0) (0)) (hq : iK q) : z_ok (k_Tw_turnBytes_30 x1 x2 x4 x6 q) (fun o : z_Sg => iK o) := by
  unfold k_Tw_turnBytes_30
  refine z_ok_l (fun a : Int32 × Int64 × Int64 × Int32 × z_Sg => y_in a.1 (2) (8) ∧ y_in a.2.2.2.1 (0) (8) ∧ iK a.2.2.2.2) (fun a => (8 - a.2.2.2.1.toInt).toNat) ?_ (x1, x2, x4, x6, q) ⟨hx1, (z_w hx6 (by decide) (by decide)), hq⟩ (by show ((8 - x6.toInt).toNat) < 2000; have z1 := hx6.1; have z2 := hx6.2; omega)
  intro ih a ha hih
  exact t_kb_Tw_turnBytes_30 ih a.1 a.2.1 a.2.2.1 a.2.2.2.1 a.2.2.2.2 (fun x1' x2' x4' x6' q' hx1' hx6' hq' hm => hih (x1', x2', x4', x6', q') ⟨hx1', hx6', hq'⟩ hm) ha.1 ha.2.1 ha.2.2

set_option maxHeartbeats 4000000 in
set_option maxRecDepth 100000 in
theorem t_f_Tw_turnBytes (q : z_Sg) (hq : iK q) : z_ok (f_Tw_turnBytes q) (fun o : z_Sg => iK o) := by
  unfold f_Tw_turnBytes
  refine z_ok_b (t_f_De_sizeV q hq) (fun r1 hr1 => ?_)
  refine z_ok_b (t_f_De_registerO q hq) (fun r2 hr2 => ?_)
  refine z_ok_b (t_f_Op_part r2 r1 q hr2 (z_w hr1 (by decide) (by decide)) hq) (fun r3 hr3 => ?_)
  exact t_k_Tw_turnBytes_30 r1 r3 (0 : Int64) (0 : Int32) q hr1 (show y_il (0 : Int64) (0) (0) from ⟨by decide, by decide⟩) (show y_in (0 : Int32) (0) (0) from ⟨by decide, by decide⟩) hq

set_option maxHeartbeats 4000000 in
set_option maxRecDepth 100000 in
theorem t_f_Ar_settle (x1 : Int32) (x2 : Int32) (x3 : Int32) (q : z_Sg) (hx1 : y_in x1 (0) (2261)) (hx2 : y_in x2 (0) (4095)) (hx3 : y_in x3 (0) (32767)) (hq : iK q) : z_ok (f_Ar_settle x1 x2 x3 q) (fun o : z_Sg => iK o) := by
  unfold f_Ar_settle
  refine z_ok_n (fun n1 en1 => ?_)
  refine z_ok_n (fun q2 eq2 => ?_)
  have hq2 : iK q2 := by rw [eq2]; exact (iK_sI0 hq)
  exact z_ok_s hq2

set_option maxHeartbeats 4000000 in
set_option maxRecDepth 100000 in
theorem t_k_Tw_useBit_129 (q : z_Sg) (hq : iK q) : z_ok (k_Tw_useBit_129 q) (fun o : z_Sg => iK o) := by
  unfold k_Tw_useBit_129
  exact z_ok_s hq

set_option maxHeartbeats 4000000 in
set_option maxRecDepth 100000 in
theorem t_k_Tw_useBit_62 (x1 : Int32) (x4 : Int64) (x6 : Int64) (t1 : Int32) (t2 : Int32) (q : z_Sg) (hx1 : y_in x1 (0) (3)) (ht1 : y_in t1 (1) (1)) (ht2 : y_in t2 (0) (1)) (hq : iK q) : z_ok (k_Tw_useBit_62 x1 x4 x6 t1 t2 q) (fun o : z_Sg => iK o) := by
  unfold k_Tw_useBit_62
  refine z_ok_b (t_f_Ar_settle t1 t2 (2196 : Int32) q (z_w ht1 (by decide) (by decide)) (z_w ht2 (by decide) (by decide)) (z_w (show y_in (2196 : Int32) (2196) (2196) from ⟨by decide, by decide⟩) (by decide) (by decide)) hq) (fun r5 hr5 => ?_)
  refine z_ok_i (fun c61772 => ?_) (fun c61772 => ?_)
  · have z61773 : y_in x1 (1) (1) := z_w (z_eq1 c61772 (show y_in (1 : Int32) (1) (1) from ⟨by decide, by decide⟩)) (by decide) (by decide)
    refine z_ok_b (t_f_Op_put (x4 ||| x6) r5 hr5) (fun r11 hr11 => ?_)
    exact t_k_Tw_useBit_129 r11 hr11
  · refine z_ok_i (fun c61774 => ?_) (fun c61774 => ?_)
    · have z61775 : y_in x1 (2) (2) := z_w (z_eq1 c61774 (show y_in (2 : Int32) (2) (2) from ⟨by decide, by decide⟩)) (by decide) (by decide)
      refine z_ok_b (t_f_Op_put (x4 &&& (x6 ^^^ (-1 : Int64))) r5 hr5) (fun r10 hr10 => ?_)
      exact t_k_Tw_useBit_129 r10 hr10
    · refine z_ok_i (fun c61776 => ?_) (fun c61776 => ?_)
      · have z61777 : y_in x1 (3) (3) := z_w (z_eq1 c61776 (show y_in (3 : Int32) (3) (3) from ⟨by decide, by decide⟩)) (by decide) (by decide)
        refine z_ok_b (t_f_Op_put (x4 ^^^ x6) r5 hr5) (fun r9 hr9 => ?_)
        exact t_k_Tw_useBit_129 r9 hr9
      · have z61778 : y_in x1 (0) (2) := z_w (z_ne2 c61776 hx1 (by decide)) (by decide) (by decide)
        exact t_k_Tw_useBit_129 r5 hr5

set_option maxHeartbeats 4000000 in
set_option maxRecDepth 100000 in
theorem t_k_Tw_useBit_45 (x1 : Int32) (x4 : Int64) (x6 : Int64) (t0 : Int32) (q : z_Sg) (hx1 : y_in x1 (0) (3)) (ht0 : y_in t0 (0) (1)) (hq : iK q) : z_ok (k_Tw_useBit_45 x1 x4 x6 t0 q) (fun o : z_Sg => iK o) := by
  unfold k_Tw_useBit_45
  refine z_ok_i (fun c61779 => ?_) (fun c61779 => ?_)
  · have z61780 : y_in t0 (0) (0) := z_w (z_eq1 c61779 (show y_in (0 : Int32) (0) (0) from ⟨by decide, by decide⟩)) (by decide) (by decide)
    exact t_k_Tw_useBit_62 x1 x4 x6 (1 : Int32) (0 : Int32) q hx1 (show y_in (1 : Int32) (1) (1) from ⟨by decide, by decide⟩) (z_w (show y_in (0 : Int32) (0) (0) from ⟨by decide, by decide⟩) (by decide) (by decide)) hq
  · have z61781 : y_in t0 (1) (1) := z_w (z_ne1 c61779 ht0 (by decide)) (by decide) (by decide)
    exact t_k_Tw_useBit_62 x1 x4 x6 (1 : Int32) (1 : Int32) q hx1 (show y_in (1 : Int32) (1) (1) from ⟨by decide, by decide⟩) (z_w (show y_in (1 : Int32) (1) (1) from ⟨by decide, by decide⟩) (by decide) (by decide)) hq

set_option maxHeartbeats 4000000 in
set_option maxRecDepth 100000 in
theorem t_f_Tw_useBit (x1 : Int32) (x2 : Int64) (q : z_Sg) (hx1 : y_in x1 (0) (3)) (hq : iK q) : z_ok (f_Tw_useBit x1 x2 q) (fun o : z_Sg => iK o) := by
  unfold f_Tw_useBit
  refine z_ok_b (t_f_Op_value q hq) (fun r1 hr1 => ?_)
  refine z_ok_n (fun n2 en2 => ?_)
  refine z_ok_i (fun c61782 => ?_) (fun c61782 => ?_)
  · exact t_k_Tw_useBit_45 x1 r1 n2 (0 : Int32) q hx1 (z_w (show y_in (0 : Int32) (0) (0) from ⟨by decide, by decide⟩) (by decide) (by decide)) hq
  · exact t_k_Tw_useBit_45 x1 r1 n2 (1 : Int32) q hx1 (z_w (show y_in (1 : Int32) (1) (1) from ⟨by decide, by decide⟩) (by decide) (by decide)) hq

set_option maxHeartbeats 4000000 in
set_option maxRecDepth 100000 in
theorem t_f_Wi_upperHalf (x0 : Int64) (x2 : Int64) (q : z_Sg) (hq : iK q) : z_ok (f_Wi_upperHalf x0 x2 q) (fun _ : Int64 => True) := by
  unfold f_Wi_upperHalf
  refine z_ok_n (fun n1 en1 => ?_)
  have hn1 : y_il n1 (0) (4294967295) := z_le_ en1 (z_landl (n := 4294967295) rfl (by decide))
  refine z_ok_n (fun n2 en2 => ?_)
  refine z_ok_n (fun n3 en3 => ?_)
  have hn3 : y_il n3 (0) (4294967295) := z_le_ en3 (z_landl (n := 4294967295) rfl (by decide))
  refine z_ok_n (fun n4 en4 => ?_)
  refine z_ok_n (fun n5 en5 => ?_)
  refine z_ok_n (fun n6 en6 => ?_)
  exact z_ok_s trivial

set_option maxHeartbeats 4000000 in
set_option maxRecDepth 100000 in
theorem t_k_Wi_multiply_193 (t1 : Int32) (t2 : Int32) (q : z_Sg) (ht1 : y_in t1 (2049) (2049)) (ht2 : y_in t2 (0) (2049)) (hq : iK q) : z_ok (k_Wi_multiply_193 t1 t2 q) (fun o : z_Sg => iK o) := by
  unfold k_Wi_multiply_193
  refine z_ok_b (t_f_Ar_settle t1 t2 (212 : Int32) q (z_w ht1 (by decide) (by decide)) (z_w ht2 (by decide) (by decide)) (z_w (show y_in (212 : Int32) (212) (212) from ⟨by decide, by decide⟩) (by decide) (by decide)) hq) (fun r11 hr11 => ?_)
  exact z_ok_s hr11

set_option maxHeartbeats 4000000 in
set_option maxRecDepth 100000 in
theorem t_k_Wi_multiply_172 (t0 : Int32) (q : z_Sg) (ht0 : y_in t0 (0) (1)) (hq : iK q) : z_ok (k_Wi_multiply_172 t0 q) (fun o : z_Sg => iK o) := by
  unfold k_Wi_multiply_172
  refine z_ok_i (fun c61783 => ?_) (fun c61783 => ?_)
  · have z61784 : y_in t0 (0) (0) := z_w (z_eq1 c61783 (show y_in (0 : Int32) (0) (0) from ⟨by decide, by decide⟩)) (by decide) (by decide)
    exact t_k_Wi_multiply_193 (2049 : Int32) (0 : Int32) q (show y_in (2049 : Int32) (2049) (2049) from ⟨by decide, by decide⟩) (z_w (show y_in (0 : Int32) (0) (0) from ⟨by decide, by decide⟩) (by decide) (by decide)) hq
  · have z61785 : y_in t0 (1) (1) := z_w (z_ne1 c61783 ht0 (by decide)) (by decide) (by decide)
    exact t_k_Wi_multiply_193 (2049 : Int32) (2049 : Int32) q (show y_in (2049 : Int32) (2049) (2049) from ⟨by decide, by decide⟩) (z_w (show y_in (2049 : Int32) (2049) (2049) from ⟨by decide, by decide⟩) (by decide) (by decide)) hq

set_option maxHeartbeats 4000000 in
set_option maxRecDepth 100000 in
theorem t_k_Wi_multiply_163 (t0 : Int64) (t1 : Int64) (q : z_Sg) (hq : iK q) : z_ok (k_Wi_multiply_163 t0 t1 q) (fun o : z_Sg => iK o) := by
  unfold k_Wi_multiply_163
  refine z_ok_i (fun c61786 => ?_) (fun c61786 => ?_)
  · exact t_k_Wi_multiply_172 (0 : Int32) q (z_w (show y_in (0 : Int32) (0) (0) from ⟨by decide, by decide⟩) (by decide) (by decide)) hq
  · exact t_k_Wi_multiply_172 (1 : Int32) q (z_w (show y_in (1 : Int32) (1) (1) from ⟨by decide, by decide⟩) (by decide) (by decide)) hq

set_option maxHeartbeats 4000000 in
set_option maxRecDepth 100000 in
theorem t_k_Wi_multiply_143 (x5 : Int32) (t0 : Int32) (q : z_Sg) (hx5 : y_in x5 (0) (8)) (ht0 : y_in t0 (0) (1)) (hq : iK q) : z_ok (k_Wi_multiply_143 x5 t0 q) (fun o : z_Sg => iK o) := by
  unfold k_Wi_multiply_143
  refine z_ok_i (fun c61787 => ?_) (fun c61787 => ?_)
  · have z61788 : y_in t0 (0) (0) := z_w (z_eq1 c61787 (show y_in (0 : Int32) (0) (0) from ⟨by decide, by decide⟩)) (by decide) (by decide)
    exact t_k_Wi_multiply_163 (z_gL q 12) (0 : Int64) q hq
  · have z61789 : y_in t0 (1) (1) := z_w (z_ne1 c61787 ht0 (by decide)) (by decide) (by decide)
    refine z_ok_b (t_f_Ar_maskOf x5 q hx5 hq) (fun r12 hr12 => ?_)
    exact t_k_Wi_multiply_163 (z_gL q 12) r12 q hq

set_option maxHeartbeats 4000000 in
set_option maxRecDepth 100000 in
theorem t_k_Wi_multiply_142 (x5 : Int32) (q : z_Sg) (hx5 : y_in x5 (0) (8)) (hq : iK q) : z_ok (k_Wi_multiply_142 x5 q) (fun o : z_Sg => iK o) := by
  unfold k_Wi_multiply_142
  exact t_k_Wi_multiply_143 x5 (0 : Int32) q hx5 (z_w (show y_in (0 : Int32) (0) (0) from ⟨by decide, by decide⟩) (by decide) (by decide)) hq

set_option maxHeartbeats 4000000 in
set_option maxRecDepth 100000 in
theorem t_k_Wi_multiply_119 (x5 : Int32) (x6 : Int32) (q : z_Sg) (hx5 : y_in x5 (0) (8)) (hx6 : y_in x6 (0) (1)) (hq : iK q) : z_ok (k_Wi_multiply_119 x5 x6 q) (fun o : z_Sg => iK o) := by
  unfold k_Wi_multiply_119
  refine z_ok_i (fun c61790 => ?_) (fun c61790 => ?_)
  · have z61791 : y_in x6 (0) (0) := z_w (z_eq1 c61790 (show y_in (0 : Int32) (0) (0) from ⟨by decide, by decide⟩)) (by decide) (by decide)
    exact t_k_Wi_multiply_142 x5 q hx5 hq
  · have z61792 : y_in x6 (1) (1) := z_w (z_ne1 c61790 hx6 (by decide)) (by decide) (by decide)
    refine z_ok_b (t_f_Ar_signed (z_gL q 11) x5 q hx5 hq) (fun r13 hr13 => ?_)
    refine z_ok_i (fun c61793 => ?_) (fun c61793 => ?_)
    · exact t_k_Wi_multiply_142 x5 q hx5 hq
    · exact t_k_Wi_multiply_143 x5 (1 : Int32) q hx5 (z_w (show y_in (1 : Int32) (1) (1) from ⟨by decide, by decide⟩) (by decide) (by decide)) hq

set_option maxHeartbeats 4000000 in
set_option maxRecDepth 100000 in
theorem t_k_Wi_multiply_87 (x5 : Int32) (x6 : Int32) (t0 : Int64) (q : z_Sg) (hx5 : y_in x5 (0) (7)) (hx6 : y_in x6 (0) (1)) (hq : iK q) : z_ok (k_Wi_multiply_87 x5 x6 t0 q) (fun o : z_Sg => iK o) := by
  unfold k_Wi_multiply_87
  refine z_ok_b (t_f_Ar_maskOf x5 q (z_w hx5 (by decide) (by decide)) hq) (fun r3 hr3 => ?_)
  refine z_ok_n (fun q4 eq4 => ?_)
  have hq4 : iK q4 := by rw [eq4]; exact (iK_sL hq)
  refine z_ok_b (t_f_Ar_maskOf x5 q4 (z_w hx5 (by decide) (by decide)) hq4) (fun r5 hr5 => ?_)
  refine z_ok_n (fun q6 eq6 => ?_)
  have hq6 : iK q6 := by rw [eq6]; exact (iK_sL hq4)
  exact t_k_Wi_multiply_119 x5 x6 q6 (z_w hx5 (by decide) (by decide)) hx6 hq6

set_option maxHeartbeats 4000000 in
set_option maxRecDepth 100000 in
theorem t_k_Wi_multiply_55 (x5 : Int32) (x6 : Int32) (t1 : Int64) (t2 : Int64) (t3 : Int64) (q : z_Sg) (hx5 : y_in x5 (8) (8)) (hx6 : y_in x6 (1) (1)) (hq : iK q) : z_ok (k_Wi_multiply_55 x5 x6 t1 t2 t3 q) (fun o : z_Sg => iK o) := by
  unfold k_Wi_multiply_55
  refine z_ok_n (fun q23 eq23 => ?_)
  have hq23 : iK q23 := by rw [eq23]; exact (iK_sL hq)
  exact t_k_Wi_multiply_119 x5 x6 q23 (z_w hx5 (by decide) (by decide)) (z_w hx6 (by decide) (by decide)) hq23

set_option maxHeartbeats 4000000 in
set_option maxRecDepth 100000 in
theorem t_k_Wi_multiply_44 (x1 : Int64) (x3 : Int64) (x5 : Int32) (x6 : Int32) (t1 : Int64) (t2 : Int64) (q : z_Sg) (hx5 : y_in x5 (8) (8)) (hx6 : y_in x6 (1) (1)) (hq : iK q) : z_ok (k_Wi_multiply_44 x1 x3 x5 x6 t1 t2 q) (fun o : z_Sg => iK o) := by
  unfold k_Wi_multiply_44
  refine z_ok_i (fun c61794 => ?_) (fun c61794 => ?_)
  · exact t_k_Wi_multiply_55 x5 x6 t1 t2 (0 : Int64) q hx5 hx6 hq
  · exact t_k_Wi_multiply_55 x5 x6 t1 t2 x1 q hx5 hx6 hq

set_option maxHeartbeats 4000000 in
set_option maxRecDepth 100000 in
theorem t_f_Wi_multiply (x1 : Int64) (x3 : Int64) (x5 : Int32) (x6 : Int32) (q : z_Sg) (hx5 : y_in x5 (0) (8)) (hx6 : y_in x6 (0) (1)) (hq : iK q) : z_ok (f_Wi_multiply x1 x3 x5 x6 q) (fun o : z_Sg => iK o) := by
  unfold f_Wi_multiply
  refine z_ok_i (fun c61795 => ?_) (fun c61795 => ?_)
  · have z61796 : y_in x5 (8) (8) := z_w (z_eq1 c61795 (show y_in (8 : Int32) (8) (8) from ⟨by decide, by decide⟩)) (by decide) (by decide)
    refine z_ok_n (fun q17 eq17 => ?_)
    have hq17 : iK q17 := by rw [eq17]; exact (iK_sL hq)
    refine z_ok_b (t_f_Wi_upperHalf x1 x3 q17 hq17) (fun r18 hr18 => ?_)
    refine z_ok_n (fun q19 eq19 => ?_)
    have hq19 : iK q19 := by rw [eq19]; exact (iK_sL hq17)
    refine z_ok_i (fun c61797 => ?_) (fun c61797 => ?_)
    · have z61798 : y_in x6 (0) (0) := z_w (z_eq1 c61797 (show y_in (0 : Int32) (0) (0) from ⟨by decide, by decide⟩)) (by decide) (by decide)
      exact t_k_Wi_multiply_119 x5 x6 q19 (z_w z61796 (by decide) (by decide)) (z_w z61798 (by decide) (by decide)) hq19
    · have z61799 : y_in x6 (1) (1) := z_w (z_ne1 c61797 hx6 (by decide)) (by decide) (by decide)
      refine z_ok_i (fun c61800 => ?_) (fun c61800 => ?_)
      · exact t_k_Wi_multiply_44 x1 x3 x5 x6 (z_gL q19 12) (0 : Int64) q19 z61796 z61799 hq19
      · exact t_k_Wi_multiply_44 x1 x3 x5 x6 (z_gL q19 12) x3 q19 z61796 z61799 hq19
  · have z61801 : y_in x5 (0) (7) := z_w (z_ne2 c61795 hx5 (by decide)) (by decide) (by decide)
    refine z_ok_i (fun c61802 => ?_) (fun c61802 => ?_)
    · have z61803 : y_in x6 (0) (0) := z_w (z_eq1 c61802 (show y_in (0 : Int32) (0) (0) from ⟨by decide, by decide⟩)) (by decide) (by decide)
      exact t_k_Wi_multiply_87 x5 x6 (x1 * x3) q z61801 (z_w z61803 (by decide) (by decide)) hq
    · have z61804 : y_in x6 (1) (1) := z_w (z_ne1 c61802 hx6 (by decide)) (by decide) (by decide)
      refine z_ok_b (t_f_Ar_signed x1 x5 q (z_w z61801 (by decide) (by decide)) hq) (fun r15 hr15 => ?_)
      refine z_ok_b (t_f_Ar_signed x3 x5 q (z_w z61801 (by decide) (by decide)) hq) (fun r16 hr16 => ?_)
      exact t_k_Wi_multiply_87 x5 x6 (r15 * r16) q z61801 (z_w z61804 (by decide) (by decide)) hq

set_option maxHeartbeats 4000000 in
set_option maxRecDepth 100000 in
theorem t_k_Ar_flagsOf_51 (x6 : Int32) (t0 : Int32) (t1 : Int32) (q : z_Sg) (hx6 : y_in x6 (0) (15)) (ht0 : y_in t0 (0) (64)) (ht1 : y_in t1 (0) (128)) (hq : iK q) : z_ok (k_Ar_flagsOf_51 x6 t0 t1 q) (fun o : Int32 => y_in o (0) (255)) := by
  unfold k_Ar_flagsOf_51
  exact z_ok_s (z_w (a' := 0) (b' := 255) (z_or 8 (z_w (a' := 0) (b' := 255) (z_or 8 ht0 ht1 (by decide) (by decide) (by decide) (by decide) (by decide)) (by decide) (by decide)) (z_w (a' := 0) (b' := 4) (z_mul (z_and (show y_in (1 : Int32) (1) (1) from ⟨by decide, by decide⟩) (by decide)) (show y_in (4 : Int32) (4) (4) from ⟨by decide, by decide⟩) (by decide) (by decide) (by decide)) (by decide) (by decide)) (by decide) (by decide) (by decide) (by decide) (by decide)) (by decide) (by decide))

set_option maxHeartbeats 4000000 in
set_option maxRecDepth 100000 in
theorem t_k_Ar_flagsOf_37 (x4 : Int64) (x6 : Int32) (t0 : Int32) (q : z_Sg) (hx6 : y_in x6 (0) (15)) (ht0 : y_in t0 (0) (64)) (hq : iK q) : z_ok (k_Ar_flagsOf_37 x4 x6 t0 q) (fun o : Int32 => y_in o (0) (255)) := by
  unfold k_Ar_flagsOf_37
  refine z_ok_i (fun c61805 => ?_) (fun c61805 => ?_)
  · exact t_k_Ar_flagsOf_51 x6 t0 (0 : Int32) q hx6 ht0 (z_w (show y_in (0 : Int32) (0) (0) from ⟨by decide, by decide⟩) (by decide) (by decide)) hq
  · exact t_k_Ar_flagsOf_51 x6 t0 (128 : Int32) q hx6 ht0 (z_w (show y_in (128 : Int32) (128) (128) from ⟨by decide, by decide⟩) (by decide) (by decide)) hq

set_option maxHeartbeats 4000000 in
set_option maxRecDepth 100000 in
theorem t_f_Ar_flagsOf (x0 : Int64) (x2 : Int32) (q : z_Sg) (hx2 : y_in x2 (0) (8)) (hq : iK q) : z_ok (f_Ar_flagsOf x0 x2 q) (fun o : Int32 => y_in o (0) (255)) := by
  unfold f_Ar_flagsOf
  refine z_ok_n (fun n1 en1 => ?_)
  have hn1 : y_in n1 (0) (64) := z_e en1 (z_w (a' := 0) (b' := 64) (z_sub (show y_in (64 : Int32) (64) (64) from ⟨by decide, by decide⟩) (z_w (a' := 0) (b' := 64) (z_mul (show y_in (8 : Int32) (8) (8) from ⟨by decide, by decide⟩) hx2 (by decide) (by decide) (by decide)) (by decide) (by decide)) (by decide) (by decide)) (by decide) (by decide))
  refine z_ok_n (fun n2 en2 => ?_)
  refine z_ok_n (fun n3 en3 => ?_)
  have hn3 : y_in n3 (0) (15) := z_e en3 (z_and (show y_in (15 : Int32) (15) (15) from ⟨by decide, by decide⟩) (by decide))
  refine z_ok_i (fun c61806 => ?_) (fun c61806 => ?_)
  · exact t_k_Ar_flagsOf_37 n2 n3 (64 : Int32) q hn3 (z_w (show y_in (64 : Int32) (64) (64) from ⟨by decide, by decide⟩) (by decide) (by decide)) hq
  · exact t_k_Ar_flagsOf_37 n2 n3 (0 : Int32) q hn3 (z_w (show y_in (0 : Int32) (0) (0) from ⟨by decide, by decide⟩) (by decide) (by decide)) hq

set_option maxHeartbeats 4000000 in
set_option maxRecDepth 100000 in
theorem t_f_Ar_settleSum (x1 : Int64) (x3 : Int64) (x5 : Int64) (x7 : Int32) (q : z_Sg) (hx7 : y_in x7 (0) (8)) (hq : iK q) : z_ok (f_Ar_settleSum x1 x3 x5 x7 q) (fun o : Int64 × z_Sg => iK o.2) := by
  unfold f_Ar_settleSum
  refine z_ok_n (fun n1 en1 => ?_)
  have hn1 : y_in n1 (-1) (63) := z_e en1 (z_w (a' := -1) (b' := 63) (z_sub (z_w (a' := 0) (b' := 64) (z_mul (show y_in (8 : Int32) (8) (8) from ⟨by decide, by decide⟩) hx7 (by decide) (by decide) (by decide)) (by decide) (by decide)) (show y_in (1 : Int32) (1) (1) from ⟨by decide, by decide⟩) (by decide) (by decide)) (by decide) (by decide))
  refine z_ok_b (t_f_Ar_flagsOf x1 x7 q hx7 hq) (fun r2 hr2 => ?_)
  refine z_ok_n (fun n3 en3 => ?_)
  have hn3 : y_in n3 (0) (4095) := z_e en3 (z_w (a' := 0) (b' := 4095) (z_or 12 (z_w (a' := 0) (b' := 255) (z_or 8 (z_w (a' := 0) (b' := 255) (z_or 8 hr2 (z_w (a' := 0) (b' := 1) (z_mul (z_l2i (n := 1) rfl (by decide)) (show y_in (1 : Int32) (1) (1) from ⟨by decide, by decide⟩) (by decide) (by decide) (by decide)) (by decide) (by decide)) (by decide) (by decide) (by decide) (by decide) (by decide)) (by decide) (by decide)) (z_w (a' := 0) (b' := 16) (z_mul (z_l2i (n := 1) rfl (by decide)) (show y_in (16 : Int32) (16) (16) from ⟨by decide, by decide⟩) (by decide) (by decide) (by decide)) (by decide) (by decide)) (by decide) (by decide) (by decide) (by decide) (by decide)) (by decide) (by decide)) (z_w (a' := 0) (b' := 2048) (z_mul (z_l2i (n := 1) rfl (by decide)) (show y_in (2048 : Int32) (2048) (2048) from ⟨by decide, by decide⟩) (by decide) (by decide) (by decide)) (by decide) (by decide)) (by decide) (by decide) (by decide) (by decide) (by decide)) (by decide) (by decide))
  refine z_ok_b (t_f_Ar_settle (2261 : Int32) n3 (0 : Int32) q (z_w (show y_in (2261 : Int32) (2261) (2261) from ⟨by decide, by decide⟩) (by decide) (by decide)) hn3 (z_w (show y_in (0 : Int32) (0) (0) from ⟨by decide, by decide⟩) (by decide) (by decide)) hq) (fun r4 hr4 => ?_)
  refine z_ok_b (t_f_Ar_maskOf x7 r4 hx7 hr4) (fun r5 hr5 => ?_)
  exact z_ok_s hr4

set_option maxHeartbeats 4000000 in
set_option maxRecDepth 100000 in
theorem t_f_Ar_difference (x1 : Int64) (x3 : Int64) (x5 : Int64) (x7 : Int32) (q : z_Sg) (hx7 : y_in x7 (0) (8)) (hq : iK q) : z_ok (f_Ar_difference x1 x3 x5 x7 q) (fun o : Int64 × z_Sg => iK o.2) := by
  unfold f_Ar_difference
  refine z_ok_n (fun n1 en1 => ?_)
  refine z_ok_n (fun n2 en2 => ?_)
  refine z_ok_b (t_f_Ar_settleSum n1 n2 ((x1 ^^^ x3) &&& (x1 ^^^ n1)) x7 q hx7 hq) (fun r3 hr3 => ?_)
  exact z_ok_s hr3

set_option maxHeartbeats 4000000 in
set_option maxRecDepth 100000 in
theorem t_k_Tw_compareAndChange_83 (q : z_Sg) (hq : iK q) : z_ok (k_Tw_compareAndChange_83 q) (fun o : z_Sg => iK o) := by
  unfold k_Tw_compareAndChange_83
  exact z_ok_s hq

set_option maxHeartbeats 4000000 in
set_option maxRecDepth 100000 in
theorem t_f_Tw_compareAndChange (q : z_Sg) (hq : iK q) : z_ok (f_Tw_compareAndChange q) (fun o : z_Sg => iK o) := by
  unfold f_Tw_compareAndChange
  refine z_ok_n (fun n1 en1 => ?_)
  have hn1 : y_in n1 (0) (8) := z_e en1 (iK_f15 hq)
  refine z_ok_b (t_f_Op_value q hq) (fun r2 hr2 => ?_)
  refine z_ok_b (t_f_Op_part (0 : Int32) n1 q (z_w (show y_in (0 : Int32) (0) (0) from ⟨by decide, by decide⟩) (by decide) (by decide)) hn1 hq) (fun r3 hr3 => ?_)
  refine z_ok_b (t_f_Ar_difference r3 r2 (0 : Int64) n1 q hn1 hq) (fun r4 hr4 => ?_)
  refine z_ok_i (fun c61807 => ?_) (fun c61807 => ?_)
  · refine z_ok_b (t_f_Op_g n1 r4.2 hn1 hr4) (fun r8 hr8 => ?_)
    refine z_ok_b (t_f_Op_put r8 r4.2 hr4) (fun r9 hr9 => ?_)
    exact t_k_Tw_compareAndChange_83 r9 hr9
  · refine z_ok_b (t_f_Op_putPart (0 : Int32) r2 n1 r4.2 (z_w (show y_in (0 : Int32) (0) (0) from ⟨by decide, by decide⟩) (by decide) (by decide)) hn1 hr4) (fun r6 hr6 => ?_)
    refine z_ok_b (t_f_Op_put r2 r6 hr6) (fun r7 hr7 => ?_)
    exact t_k_Tw_compareAndChange_83 r7 hr7

set_option maxHeartbeats 4000000 in
set_option maxRecDepth 100000 in
theorem t_f_Lo_bitCount (x0 : Int64) (q : z_Sg) (hq : iK q) : z_ok (f_Lo_bitCount x0 q) (fun o : Int32 => y_in o (0) (127)) := by
  unfold f_Lo_bitCount
  refine z_ok_n (fun n1 en1 => ?_)
  refine z_ok_n (fun n2 en2 => ?_)
  refine z_ok_n (fun n3 en3 => ?_)
  have hn3 : y_il n3 (0) (1085102592571150095) := z_le_ en3 (z_landl (n := 1085102592571150095) rfl (by decide))
  refine z_ok_n (fun n4 en4 => ?_)
  refine z_ok_n (fun n5 en5 => ?_)
  refine z_ok_n (fun n6 en6 => ?_)
  exact z_ok_s (z_and (show y_in (127 : Int32) (127) (127) from ⟨by decide, by decide⟩) (by decide))


theorem z_dbl {x : Int32} (h : y_in x 1 63) : (x * 2).toInt = x.toInt * 2 := by
  have h1 := h.1; have h2 := h.2
  rw [Int32.toInt_mul, show (2 : Int32).toInt = 2 from rfl]
  exact z_bmod (by omega) (by omega)
theorem t_k_Tw_highestBit_5 (x2 : Int64) (x4 : Int32) (q : z_Sg) (hx4 : y_in x4 1 1) (hq : iK q) : z_ok (k_Tw_highestBit_5 x2 x4 q) (fun o : Int32 => y_in o (-1) (126)) := by
  unfold k_Tw_highestBit_5
  refine z_ok_l (fun a : Int64 × Int32 => y_in a.2 1 127) (fun a => (127 - a.2.toInt).toNat) ?_ (x2, x4) (z_w hx4 (by decide) (by decide)) (by show (127 - x4.toInt).toNat < 2000; have := hx4.1; omega)
  intro ih a ha hih
  unfold kb_Tw_highestBit_5
  refine z_ok_i (fun c => ?_) (fun c => ?_)
  · refine z_ok_b (t_f_Lo_bitCount a.1 q hq) (fun r2 hr2 => ?_)
    exact z_ok_s (z_w (z_sub hr2 (show y_in (1 : Int32) 1 1 from ⟨by decide, by decide⟩) (by decide) (by decide)) (by decide) (by decide))
  · have h1 : y_in a.2 1 63 := z_w (z_nle2 c (show y_in (64 : Int32) 64 64 from ⟨by decide, by decide⟩) ha) (by decide) (by decide)
    have e := z_dbl h1
    have h2 := h1.1; have h3 := h1.2
    refine z_ok_n (fun n3 en3 => ?_)
    refine z_ok_n (fun n4 en4 => ?_)
    subst en4
    exact hih (n3, a.2 * 2) ⟨by rw [e]; omega, by rw [e]; omega⟩ (by show (127 - (a.2 * 2).toInt).toNat < (127 - a.2.toInt).toNat; rw [e]; omega)

set_option maxHeartbeats 4000000 in
set_option maxRecDepth 100000 in
theorem t_f_Tw_highestBit (x0 : Int64) (q : z_Sg) (hq : iK q) : z_ok (f_Tw_highestBit x0 q) (fun o : Int32 => y_in o (-1) (126)) := by
  unfold f_Tw_highestBit
  exact t_k_Tw_highestBit_5 x0 (1 : Int32) q (show y_in (1 : Int32) (1) (1) from ⟨by decide, by decide⟩) hq

set_option maxHeartbeats 4000000 in
set_option maxRecDepth 100000 in
theorem t_f_Tw_lowestBit (x0 : Int64) (q : z_Sg) (hq : iK q) : z_ok (f_Tw_lowestBit x0 q) (fun o : Int32 => y_in o (0) (127)) := by
  unfold f_Tw_lowestBit
  refine z_ok_b (t_f_Lo_bitCount ((x0 &&& (-x0)) - (1 : Int64)) q hq) (fun r1 hr1 => ?_)
  exact z_ok_s hr1

set_option maxHeartbeats 4000000 in
set_option maxRecDepth 100000 in
theorem t_k_Tw_findBit_56 (q : z_Sg) (hq : iK q) : z_ok (k_Tw_findBit_56 q) (fun o : z_Sg => iK o) := by
  unfold k_Tw_findBit_56
  exact z_ok_s hq

set_option maxHeartbeats 4000000 in
set_option maxRecDepth 100000 in
theorem t_k_Tw_findBit_51 (x4 : Int32) (t1 : Int64) (q : z_Sg) (hx4 : y_in x4 (2) (8)) (hq : iK q) : z_ok (k_Tw_findBit_51 x4 t1 q) (fun o : z_Sg => iK o) := by
  unfold k_Tw_findBit_51
  refine z_ok_b (t_f_Op_putG t1 x4 q (z_w hx4 (by decide) (by decide)) hq) (fun r6 hr6 => ?_)
  exact t_k_Tw_findBit_56 r6 hr6

set_option maxHeartbeats 4000000 in
set_option maxRecDepth 100000 in
theorem t_k_Tw_findBit_18 (x1 : Int32) (x2 : Int64) (x4 : Int32) (t1 : Int32) (t2 : Int32) (q : z_Sg) (hx1 : y_in x1 (0) (1)) (hx4 : y_in x4 (2) (8)) (ht1 : y_in t1 (64) (64)) (ht2 : y_in t2 (0) (64)) (hq : iK q) : z_ok (k_Tw_findBit_18 x1 x2 x4 t1 t2 q) (fun o : z_Sg => iK o) := by
  unfold k_Tw_findBit_18
  refine z_ok_b (t_f_Ar_settle t1 t2 (2197 : Int32) q (z_w ht1 (by decide) (by decide)) (z_w ht2 (by decide) (by decide)) (z_w (show y_in (2197 : Int32) (2197) (2197) from ⟨by decide, by decide⟩) (by decide) (by decide)) hq) (fun r2 hr2 => ?_)
  refine z_ok_i (fun c61808 => ?_) (fun c61808 => ?_)
  · exact t_k_Tw_findBit_56 r2 hr2
  · refine z_ok_i (fun c61809 => ?_) (fun c61809 => ?_)
    · have z61810 : y_in x1 (0) (0) := z_w (z_eq1 c61809 (show y_in (0 : Int32) (0) (0) from ⟨by decide, by decide⟩)) (by decide) (by decide)
      refine z_ok_b (t_f_Tw_highestBit x2 r2 hr2) (fun r5 hr5 => ?_)
      exact t_k_Tw_findBit_51 x4 r5.toInt64 r2 hx4 hr2
    · have z61811 : y_in x1 (1) (1) := z_w (z_ne1 c61809 hx1 (by decide)) (by decide) (by decide)
      refine z_ok_b (t_f_Tw_lowestBit x2 r2 hr2) (fun r7 hr7 => ?_)
      exact t_k_Tw_findBit_51 x4 r7.toInt64 r2 hx4 hr2

set_option maxHeartbeats 4000000 in
set_option maxRecDepth 100000 in
theorem t_f_Tw_findBit (x1 : Int32) (x2 : Int64) (x4 : Int32) (q : z_Sg) (hx1 : y_in x1 (0) (1)) (hx4 : y_in x4 (2) (8)) (hq : iK q) : z_ok (f_Tw_findBit x1 x2 x4 q) (fun o : z_Sg => iK o) := by
  unfold f_Tw_findBit
  refine z_ok_i (fun c61812 => ?_) (fun c61812 => ?_)
  · exact t_k_Tw_findBit_18 x1 x2 x4 (64 : Int32) (64 : Int32) q hx1 hx4 (show y_in (64 : Int32) (64) (64) from ⟨by decide, by decide⟩) (z_w (show y_in (64 : Int32) (64) (64) from ⟨by decide, by decide⟩) (by decide) (by decide)) hq
  · exact t_k_Tw_findBit_18 x1 x2 x4 (64 : Int32) (0 : Int32) q hx1 hx4 (show y_in (64 : Int32) (64) (64) from ⟨by decide, by decide⟩) (z_w (show y_in (0 : Int32) (0) (0) from ⟨by decide, by decide⟩) (by decide) (by decide)) hq

set_option maxHeartbeats 4000000 in
set_option maxRecDepth 100000 in
theorem t_f_Ar_sum (x1 : Int64) (x3 : Int64) (x5 : Int64) (x7 : Int32) (q : z_Sg) (hx7 : y_in x7 (0) (8)) (hq : iK q) : z_ok (f_Ar_sum x1 x3 x5 x7 q) (fun o : Int64 × z_Sg => iK o.2) := by
  unfold f_Ar_sum
  refine z_ok_n (fun n1 en1 => ?_)
  refine z_ok_n (fun n2 en2 => ?_)
  refine z_ok_b (t_f_Ar_settleSum n1 n2 ((x1 ^^^ n1) &&& (x3 ^^^ n1)) x7 q hx7 hq) (fun r3 hr3 => ?_)
  exact z_ok_s hr3

set_option maxHeartbeats 4000000 in
set_option maxRecDepth 100000 in
theorem t_f_Tw_changeAndAdd (q : z_Sg) (hq : iK q) : z_ok (f_Tw_changeAndAdd q) (fun o : z_Sg => iK o) := by
  unfold f_Tw_changeAndAdd
  refine z_ok_n (fun n1 en1 => ?_)
  have hn1 : y_in n1 (0) (8) := z_e en1 (iK_f15 hq)
  refine z_ok_b (t_f_Op_value q hq) (fun r2 hr2 => ?_)
  refine z_ok_b (t_f_Op_g n1 q hn1 hq) (fun r3 hr3 => ?_)
  refine z_ok_b (t_f_Ar_sum r2 r3 (0 : Int64) n1 q hn1 hq) (fun r4 hr4 => ?_)
  refine z_ok_b (t_f_Op_putG r2 n1 r4.2 hn1 hr4) (fun r5 hr5 => ?_)
  refine z_ok_b (t_f_Op_put r4.1 r5 hr5) (fun r6 hr6 => ?_)
  exact z_ok_s hr6

set_option maxHeartbeats 4000000 in
set_option maxRecDepth 100000 in
theorem t_k_Tw_executeSingle_320 (q : z_Sg) (hq : iK q) : z_ok (k_Tw_executeSingle_320 q) (fun o : z_Sg => iK o) := by
  unfold k_Tw_executeSingle_320
  exact z_ok_s hq

set_option maxHeartbeats 4000000 in
set_option maxRecDepth 100000 in
theorem t_k_Tw_executeSingle_148 (x1 : Int32) (x2 : Int32) (q : z_Sg) (hx1 : y_in x1 (163) (255)) (hx2 : y_in x2 (2) (8)) (hq : iK q) : z_ok (k_Tw_executeSingle_148 x1 x2 q) (fun o : z_Sg => iK o) := by
  unfold k_Tw_executeSingle_148
  refine z_ok_b (t_f_Op_g x2 q (z_w hx2 (by decide) (by decide)) hq) (fun r5 hr5 => ?_)
  refine z_ok_b (t_f_Tw_useBit ((x1 >>> ((3 : Int32) &&& 31)) &&& (3 : Int32)) r5 q (z_and (show y_in (3 : Int32) (3) (3) from ⟨by decide, by decide⟩) (by decide)) hq) (fun r6 hr6 => ?_)
  exact t_k_Tw_executeSingle_320 r6 hr6

set_option maxHeartbeats 4000000 in
set_option maxRecDepth 100000 in
theorem t_k_Tw_executeSingle_233 (q : z_Sg) (hq : iK q) : z_ok (k_Tw_executeSingle_233 q) (fun o : z_Sg => iK o) := by
  unfold k_Tw_executeSingle_233
  refine z_ok_b (t_f_Tw_compareAndChange q hq) (fun r24 hr24 => ?_)
  exact t_k_Tw_executeSingle_320 r24 hr24

set_option maxHeartbeats 4000000 in
set_option maxRecDepth 100000 in
theorem t_k_Tw_executeSingle_240 (x2 : Int32) (q : z_Sg) (hx2 : y_in x2 (2) (8)) (hq : iK q) : z_ok (k_Tw_executeSingle_240 x2 q) (fun o : z_Sg => iK o) := by
  unfold k_Tw_executeSingle_240
  refine z_ok_b (t_f_Op_value q hq) (fun r31 hr31 => ?_)
  refine z_ok_b (t_f_Op_putG r31 x2 q (z_w hx2 (by decide) (by decide)) hq) (fun r32 hr32 => ?_)
  exact t_k_Tw_executeSingle_320 r32 hr32

set_option maxHeartbeats 4000000 in
set_option maxRecDepth 100000 in
theorem t_k_Tw_executeSingle_299 (x2 : Int32) (t1 : Int32) (q : z_Sg) (hx2 : y_in x2 (2) (8)) (ht1 : y_in t1 (0) (1)) (hq : iK q) : z_ok (k_Tw_executeSingle_299 x2 t1 q) (fun o : z_Sg => iK o) := by
  unfold k_Tw_executeSingle_299
  refine z_ok_b (t_f_Op_value q hq) (fun r41 hr41 => ?_)
  refine z_ok_b (t_f_Tw_findBit t1 r41 x2 q ht1 hx2 hq) (fun r42 hr42 => ?_)
  exact t_k_Tw_executeSingle_320 r42 hr42

set_option maxHeartbeats 4000000 in
set_option maxRecDepth 100000 in
theorem t_k_Tw_executeSingle_286 (x1 : Int32) (x2 : Int32) (q : z_Sg) (hx1 : y_in x1 (188) (189)) (hx2 : y_in x2 (2) (8)) (hq : iK q) : z_ok (k_Tw_executeSingle_286 x1 x2 q) (fun o : z_Sg => iK o) := by
  unfold k_Tw_executeSingle_286
  refine z_ok_i (fun c61813 => ?_) (fun c61813 => ?_)
  · have z61814 : y_in x1 (188) (188) := z_w (z_eq1 c61813 (show y_in (188 : Int32) (188) (188) from ⟨by decide, by decide⟩)) (by decide) (by decide)
    exact t_k_Tw_executeSingle_299 x2 (1 : Int32) q hx2 (z_w (show y_in (1 : Int32) (1) (1) from ⟨by decide, by decide⟩) (by decide) (by decide)) hq
  · have z61815 : y_in x1 (189) (189) := z_w (z_ne1 c61813 hx1 (by decide)) (by decide) (by decide)
    exact t_k_Tw_executeSingle_299 x2 (0 : Int32) q hx2 (z_w (show y_in (0 : Int32) (0) (0) from ⟨by decide, by decide⟩) (by decide) (by decide)) hq

set_option maxHeartbeats 4000000 in
set_option maxRecDepth 100000 in
theorem t_k_Tw_executeSingle_258 (x2 : Int32) (q : z_Sg) (hx2 : y_in x2 (2) (8)) (hq : iK q) : z_ok (k_Tw_executeSingle_258 x2 q) (fun o : z_Sg => iK o) := by
  unfold k_Tw_executeSingle_258
  refine z_ok_b (t_f_Op_value q hq) (fun r45 hr45 => ?_)
  refine z_ok_b (t_f_Ar_signed r45 (z_gI q 15) q (iK_f15 hq) hq) (fun r46 hr46 => ?_)
  refine z_ok_b (t_f_Op_putG r46 x2 q (z_w hx2 (by decide) (by decide)) hq) (fun r47 hr47 => ?_)
  exact t_k_Tw_executeSingle_320 r47 hr47

set_option maxHeartbeats 4000000 in
set_option maxRecDepth 100000 in
theorem t_k_Tw_executeSingle_313 (q : z_Sg) (hq : iK q) : z_ok (k_Tw_executeSingle_313 q) (fun o : z_Sg => iK o) := by
  unfold k_Tw_executeSingle_313
  refine z_ok_b (t_f_Tw_changeAndAdd q hq) (fun r50 hr50 => ?_)
  exact t_k_Tw_executeSingle_320 r50 hr50

set_option maxHeartbeats 4000000 in
set_option maxRecDepth 100000 in
theorem t_f_Tw_executeSingle (x1 : Int32) (q : z_Sg) (hx1 : y_in x1 (-256) (255)) (hq : iK q) : z_ok (f_Tw_executeSingle x1 q) (fun o : z_Sg => iK o) := by
  unfold f_Tw_executeSingle
  refine z_ok_b (t_f_De_sizeV q hq) (fun r1 hr1 => ?_)
  refine z_ok_i (fun c61816 => ?_) (fun c61816 => ?_)
  · have z61817 : y_in x1 (-256) (162) := z_w (z_lt1 c61816 hx1 (show y_in (163 : Int32) (163) (163) from ⟨by decide, by decide⟩)) (by decide) (by decide)
    exact t_k_Tw_executeSingle_320 q hq
  · have z61818 : y_in x1 (163) (255) := z_w (z_nlt1 c61816 hx1 (show y_in (163 : Int32) (163) (163) from ⟨by decide, by decide⟩)) (by decide) (by decide)
    refine z_ok_i (fun c61819 => ?_) (fun c61819 => ?_)
    · have z61820 : y_in x1 (194) (255) := z_w (z_lt2 c61819 (show y_in (193 : Int32) (193) (193) from ⟨by decide, by decide⟩) z61818) (by decide) (by decide)
      exact t_k_Tw_executeSingle_320 q hq
    · have z61821 : y_in x1 (163) (193) := z_w (z_nlt2 c61819 (show y_in (193 : Int32) (193) (193) from ⟨by decide, by decide⟩) z61818) (by decide) (by decide)
      refine z_ok_i (fun c61822 => ?_) (fun c61822 => ?_)
      · have z61823 : y_in x1 (163) (163) := z_w (z_eq1 c61822 (show y_in (163 : Int32) (163) (163) from ⟨by decide, by decide⟩)) (by decide) (by decide)
        exact t_k_Tw_executeSingle_148 x1 r1 q (z_w z61823 (by decide) (by decide)) hr1 hq
      · have z61824 : y_in x1 (164) (193) := z_w (z_ne1 c61822 z61821 (by decide)) (by decide) (by decide)
        refine z_ok_i (fun c61825 => ?_) (fun c61825 => ?_)
        · have z61826 : y_in x1 (164) (164) := z_w (z_eq1 c61825 (show y_in (164 : Int32) (164) (164) from ⟨by decide, by decide⟩)) (by decide) (by decide)
          exact t_k_Tw_executeSingle_320 q hq
        · have z61827 : y_in x1 (165) (193) := z_w (z_ne1 c61825 z61824 (by decide)) (by decide) (by decide)
          refine z_ok_i (fun c61828 => ?_) (fun c61828 => ?_)
          · have z61829 : y_in x1 (165) (165) := z_w (z_eq1 c61828 (show y_in (165 : Int32) (165) (165) from ⟨by decide, by decide⟩)) (by decide) (by decide)
            exact t_k_Tw_executeSingle_320 q hq
          · have z61830 : y_in x1 (166) (193) := z_w (z_ne1 c61828 z61827 (by decide)) (by decide) (by decide)
            refine z_ok_i (fun c61831 => ?_) (fun c61831 => ?_)
            · have z61832 : y_in x1 (166) (166) := z_w (z_eq1 c61831 (show y_in (166 : Int32) (166) (166) from ⟨by decide, by decide⟩)) (by decide) (by decide)
              exact t_k_Tw_executeSingle_320 q hq
            · have z61833 : y_in x1 (167) (193) := z_w (z_ne1 c61831 z61830 (by decide)) (by decide) (by decide)
              refine z_ok_i (fun c61834 => ?_) (fun c61834 => ?_)
              · have z61835 : y_in x1 (167) (167) := z_w (z_eq1 c61834 (show y_in (167 : Int32) (167) (167) from ⟨by decide, by decide⟩)) (by decide) (by decide)
                exact t_k_Tw_executeSingle_320 q hq
              · have z61836 : y_in x1 (168) (193) := z_w (z_ne1 c61834 z61833 (by decide)) (by decide) (by decide)
                refine z_ok_i (fun c61837 => ?_) (fun c61837 => ?_)
                · have z61838 : y_in x1 (168) (168) := z_w (z_eq1 c61837 (show y_in (168 : Int32) (168) (168) from ⟨by decide, by decide⟩)) (by decide) (by decide)
                  exact t_k_Tw_executeSingle_320 q hq
                · have z61839 : y_in x1 (169) (193) := z_w (z_ne1 c61837 z61836 (by decide)) (by decide) (by decide)
                  refine z_ok_i (fun c61840 => ?_) (fun c61840 => ?_)
                  · have z61841 : y_in x1 (169) (169) := z_w (z_eq1 c61840 (show y_in (169 : Int32) (169) (169) from ⟨by decide, by decide⟩)) (by decide) (by decide)
                    exact t_k_Tw_executeSingle_320 q hq
                  · have z61842 : y_in x1 (170) (193) := z_w (z_ne1 c61840 z61839 (by decide)) (by decide) (by decide)
                    refine z_ok_i (fun c61843 => ?_) (fun c61843 => ?_)
                    · have z61844 : y_in x1 (170) (170) := z_w (z_eq1 c61843 (show y_in (170 : Int32) (170) (170) from ⟨by decide, by decide⟩)) (by decide) (by decide)
                      exact t_k_Tw_executeSingle_320 q hq
                    · have z61845 : y_in x1 (171) (193) := z_w (z_ne1 c61843 z61842 (by decide)) (by decide) (by decide)
                      refine z_ok_i (fun c61846 => ?_) (fun c61846 => ?_)
                      · have z61847 : y_in x1 (171) (171) := z_w (z_eq1 c61846 (show y_in (171 : Int32) (171) (171) from ⟨by decide, by decide⟩)) (by decide) (by decide)
                        exact t_k_Tw_executeSingle_148 x1 r1 q (z_w z61847 (by decide) (by decide)) hr1 hq
                      · have z61848 : y_in x1 (172) (193) := z_w (z_ne1 c61846 z61845 (by decide)) (by decide) (by decide)
                        refine z_ok_i (fun c61849 => ?_) (fun c61849 => ?_)
                        · have z61850 : y_in x1 (172) (172) := z_w (z_eq1 c61849 (show y_in (172 : Int32) (172) (172) from ⟨by decide, by decide⟩)) (by decide) (by decide)
                          exact t_k_Tw_executeSingle_320 q hq
                        · have z61851 : y_in x1 (173) (193) := z_w (z_ne1 c61849 z61848 (by decide)) (by decide) (by decide)
                          refine z_ok_i (fun c61852 => ?_) (fun c61852 => ?_)
                          · have z61853 : y_in x1 (173) (173) := z_w (z_eq1 c61852 (show y_in (173 : Int32) (173) (173) from ⟨by decide, by decide⟩)) (by decide) (by decide)
                            exact t_k_Tw_executeSingle_320 q hq
                          · have z61854 : y_in x1 (174) (193) := z_w (z_ne1 c61852 z61851 (by decide)) (by decide) (by decide)
                            refine z_ok_i (fun c61855 => ?_) (fun c61855 => ?_)
                            · have z61856 : y_in x1 (174) (174) := z_w (z_eq1 c61855 (show y_in (174 : Int32) (174) (174) from ⟨by decide, by decide⟩)) (by decide) (by decide)
                              exact t_k_Tw_executeSingle_320 q hq
                            · have z61857 : y_in x1 (175) (193) := z_w (z_ne1 c61855 z61854 (by decide)) (by decide) (by decide)
                              refine z_ok_i (fun c61858 => ?_) (fun c61858 => ?_)
                              · have z61859 : y_in x1 (175) (175) := z_w (z_eq1 c61858 (show y_in (175 : Int32) (175) (175) from ⟨by decide, by decide⟩)) (by decide) (by decide)
                                refine z_ok_b (t_f_Op_g r1 q (z_w hr1 (by decide) (by decide)) hq) (fun r19 hr19 => ?_)
                                refine z_ok_b (t_f_Op_value q hq) (fun r20 hr20 => ?_)
                                refine z_ok_b (t_f_Wi_multiply r19 r20 r1 (1 : Int32) q (z_w hr1 (by decide) (by decide)) (z_w (show y_in (1 : Int32) (1) (1) from ⟨by decide, by decide⟩) (by decide) (by decide)) hq) (fun r21 hr21 => ?_)
                                refine z_ok_b (t_f_Op_putG (z_gL r21 11) r1 r21 (z_w hr1 (by decide) (by decide)) hr21) (fun r22 hr22 => ?_)
                                exact t_k_Tw_executeSingle_320 r22 hr22
                              · have z61860 : y_in x1 (176) (193) := z_w (z_ne1 c61858 z61857 (by decide)) (by decide) (by decide)
                                refine z_ok_i (fun c61861 => ?_) (fun c61861 => ?_)
                                · have z61862 : y_in x1 (176) (176) := z_w (z_eq1 c61861 (show y_in (176 : Int32) (176) (176) from ⟨by decide, by decide⟩)) (by decide) (by decide)
                                  exact t_k_Tw_executeSingle_233 q hq
                                · have z61863 : y_in x1 (177) (193) := z_w (z_ne1 c61861 z61860 (by decide)) (by decide) (by decide)
                                  refine z_ok_i (fun c61864 => ?_) (fun c61864 => ?_)
                                  · have z61865 : y_in x1 (177) (177) := z_w (z_eq1 c61864 (show y_in (177 : Int32) (177) (177) from ⟨by decide, by decide⟩)) (by decide) (by decide)
                                    exact t_k_Tw_executeSingle_233 q hq
                                  · have z61866 : y_in x1 (178) (193) := z_w (z_ne1 c61864 z61863 (by decide)) (by decide) (by decide)
                                    refine z_ok_i (fun c61867 => ?_) (fun c61867 => ?_)
                                    · have z61868 : y_in x1 (178) (178) := z_w (z_eq1 c61867 (show y_in (178 : Int32) (178) (178) from ⟨by decide, by decide⟩)) (by decide) (by decide)
                                      exact t_k_Tw_executeSingle_320 q hq
                                    · have z61869 : y_in x1 (179) (193) := z_w (z_ne1 c61867 z61866 (by decide)) (by decide) (by decide)
                                      refine z_ok_i (fun c61870 => ?_) (fun c61870 => ?_)
                                      · have z61871 : y_in x1 (179) (179) := z_w (z_eq1 c61870 (show y_in (179 : Int32) (179) (179) from ⟨by decide, by decide⟩)) (by decide) (by decide)
                                        exact t_k_Tw_executeSingle_148 x1 r1 q (z_w z61871 (by decide) (by decide)) hr1 hq
                                      · have z61872 : y_in x1 (180) (193) := z_w (z_ne1 c61870 z61869 (by decide)) (by decide) (by decide)
                                        refine z_ok_i (fun c61873 => ?_) (fun c61873 => ?_)
                                        · have z61874 : y_in x1 (180) (180) := z_w (z_eq1 c61873 (show y_in (180 : Int32) (180) (180) from ⟨by decide, by decide⟩)) (by decide) (by decide)
                                          exact t_k_Tw_executeSingle_320 q hq
                                        · have z61875 : y_in x1 (181) (193) := z_w (z_ne1 c61873 z61872 (by decide)) (by decide) (by decide)
                                          refine z_ok_i (fun c61876 => ?_) (fun c61876 => ?_)
                                          · have z61877 : y_in x1 (181) (181) := z_w (z_eq1 c61876 (show y_in (181 : Int32) (181) (181) from ⟨by decide, by decide⟩)) (by decide) (by decide)
                                            exact t_k_Tw_executeSingle_320 q hq
                                          · have z61878 : y_in x1 (182) (193) := z_w (z_ne1 c61876 z61875 (by decide)) (by decide) (by decide)
                                            refine z_ok_i (fun c61879 => ?_) (fun c61879 => ?_)
                                            · have z61880 : y_in x1 (182) (182) := z_w (z_eq1 c61879 (show y_in (182 : Int32) (182) (182) from ⟨by decide, by decide⟩)) (by decide) (by decide)
                                              exact t_k_Tw_executeSingle_240 r1 q hr1 hq
                                            · have z61881 : y_in x1 (183) (193) := z_w (z_ne1 c61879 z61878 (by decide)) (by decide) (by decide)
                                              refine z_ok_i (fun c61882 => ?_) (fun c61882 => ?_)
                                              · have z61883 : y_in x1 (183) (183) := z_w (z_eq1 c61882 (show y_in (183 : Int32) (183) (183) from ⟨by decide, by decide⟩)) (by decide) (by decide)
                                                exact t_k_Tw_executeSingle_240 r1 q hr1 hq
                                              · have z61884 : y_in x1 (184) (193) := z_w (z_ne1 c61882 z61881 (by decide)) (by decide) (by decide)
                                                refine z_ok_i (fun c61885 => ?_) (fun c61885 => ?_)
                                                · have z61886 : y_in x1 (184) (184) := z_w (z_eq1 c61885 (show y_in (184 : Int32) (184) (184) from ⟨by decide, by decide⟩)) (by decide) (by decide)
                                                  exact t_k_Tw_executeSingle_320 q hq
                                                · have z61887 : y_in x1 (185) (193) := z_w (z_ne1 c61885 z61884 (by decide)) (by decide) (by decide)
                                                  refine z_ok_i (fun c61888 => ?_) (fun c61888 => ?_)
                                                  · have z61889 : y_in x1 (185) (185) := z_w (z_eq1 c61888 (show y_in (185 : Int32) (185) (185) from ⟨by decide, by decide⟩)) (by decide) (by decide)
                                                    exact t_k_Tw_executeSingle_320 q hq
                                                  · have z61890 : y_in x1 (186) (193) := z_w (z_ne1 c61888 z61887 (by decide)) (by decide) (by decide)
                                                    refine z_ok_i (fun c61891 => ?_) (fun c61891 => ?_)
                                                    · have z61892 : y_in x1 (186) (186) := z_w (z_eq1 c61891 (show y_in (186 : Int32) (186) (186) from ⟨by decide, by decide⟩)) (by decide) (by decide)
                                                      refine z_ok_b (t_f_Tw_useBit ((z_gI q 13) &&& (3 : Int32)) (z_gL q 9) q (z_and (show y_in (3 : Int32) (3) (3) from ⟨by decide, by decide⟩) (by decide)) hq) (fun r37 hr37 => ?_)
                                                      exact t_k_Tw_executeSingle_320 r37 hr37
                                                    · have z61893 : y_in x1 (187) (193) := z_w (z_ne1 c61891 z61890 (by decide)) (by decide) (by decide)
                                                      refine z_ok_i (fun c61894 => ?_) (fun c61894 => ?_)
                                                      · have z61895 : y_in x1 (187) (187) := z_w (z_eq1 c61894 (show y_in (187 : Int32) (187) (187) from ⟨by decide, by decide⟩)) (by decide) (by decide)
                                                        exact t_k_Tw_executeSingle_148 x1 r1 q (z_w z61895 (by decide) (by decide)) hr1 hq
                                                      · have z61896 : y_in x1 (188) (193) := z_w (z_ne1 c61894 z61893 (by decide)) (by decide) (by decide)
                                                        refine z_ok_i (fun c61897 => ?_) (fun c61897 => ?_)
                                                        · have z61898 : y_in x1 (188) (188) := z_w (z_eq1 c61897 (show y_in (188 : Int32) (188) (188) from ⟨by decide, by decide⟩)) (by decide) (by decide)
                                                          exact t_k_Tw_executeSingle_286 x1 r1 q (z_w z61898 (by decide) (by decide)) hr1 hq
                                                        · have z61899 : y_in x1 (189) (193) := z_w (z_ne1 c61897 z61896 (by decide)) (by decide) (by decide)
                                                          refine z_ok_i (fun c61900 => ?_) (fun c61900 => ?_)
                                                          · have z61901 : y_in x1 (189) (189) := z_w (z_eq1 c61900 (show y_in (189 : Int32) (189) (189) from ⟨by decide, by decide⟩)) (by decide) (by decide)
                                                            exact t_k_Tw_executeSingle_286 x1 r1 q (z_w z61901 (by decide) (by decide)) hr1 hq
                                                          · have z61902 : y_in x1 (190) (193) := z_w (z_ne1 c61900 z61899 (by decide)) (by decide) (by decide)
                                                            refine z_ok_i (fun c61903 => ?_) (fun c61903 => ?_)
                                                            · have z61904 : y_in x1 (190) (190) := z_w (z_eq1 c61903 (show y_in (190 : Int32) (190) (190) from ⟨by decide, by decide⟩)) (by decide) (by decide)
                                                              exact t_k_Tw_executeSingle_258 r1 q hr1 hq
                                                            · have z61905 : y_in x1 (191) (193) := z_w (z_ne1 c61903 z61902 (by decide)) (by decide) (by decide)
                                                              refine z_ok_i (fun c61906 => ?_) (fun c61906 => ?_)
                                                              · have z61907 : y_in x1 (191) (191) := z_w (z_eq1 c61906 (show y_in (191 : Int32) (191) (191) from ⟨by decide, by decide⟩)) (by decide) (by decide)
                                                                exact t_k_Tw_executeSingle_258 r1 q hr1 hq
                                                              · have z61908 : y_in x1 (192) (193) := z_w (z_ne1 c61906 z61905 (by decide)) (by decide) (by decide)
                                                                refine z_ok_i (fun c61909 => ?_) (fun c61909 => ?_)
                                                                · have z61910 : y_in x1 (192) (192) := z_w (z_eq1 c61909 (show y_in (192 : Int32) (192) (192) from ⟨by decide, by decide⟩)) (by decide) (by decide)
                                                                  exact t_k_Tw_executeSingle_313 q hq
                                                                · have z61911 : y_in x1 (193) (193) := z_w (z_ne1 c61909 z61908 (by decide)) (by decide) (by decide)
                                                                  exact t_k_Tw_executeSingle_313 q hq

set_option maxHeartbeats 4000000 in
set_option maxRecDepth 100000 in
theorem t_k_Tw_execute_121 (q : z_Sg) (hq : iK q) : z_ok (k_Tw_execute_121 q) (fun o : Int32 × z_Sg => iK o.2 ∧ y_in o.1 (-1) (-1)) := by
  unfold k_Tw_execute_121
  exact z_ok_s ⟨hq, (show y_in (-1 : Int32) (-1) (-1) from ⟨by decide, by decide⟩)⟩

set_option maxHeartbeats 4000000 in
set_option maxRecDepth 100000 in
theorem t_k_Tw_execute_68 (x1 : Int32) (q : z_Sg) (hx1 : y_in x1 (-256) (255)) (hq : iK q) : z_ok (k_Tw_execute_68 x1 q) (fun o : Int32 × z_Sg => iK o.2 ∧ y_in o.1 (-1) (-1)) := by
  unfold k_Tw_execute_68
  refine z_ok_b (t_f_Ar_holds x1 q (z_w hx1 (by decide) (by decide)) hq) (fun r3 hr3 => ?_)
  refine z_ok_b (t_f_Tw_moveIf r3 q hr3 hq) (fun r4 hr4 => ?_)
  exact t_k_Tw_execute_121 r4 hr4

set_option maxHeartbeats 4000000 in
set_option maxRecDepth 100000 in
theorem t_k_Tw_execute_103 (t1 : Int64) (q : z_Sg) (ht1 : y_il t1 (0) (1)) (hq : iK q) : z_ok (k_Tw_execute_103 t1 q) (fun o : Int32 × z_Sg => iK o.2 ∧ y_in o.1 (-1) (-1)) := by
  unfold k_Tw_execute_103
  refine z_ok_b (t_f_Op_put t1 q hq) (fun r9 hr9 => ?_)
  exact t_k_Tw_execute_121 r9 hr9

set_option maxHeartbeats 4000000 in
set_option maxRecDepth 100000 in
theorem t_k_Tw_execute_83 (x1 : Int32) (q : z_Sg) (hx1 : y_in x1 (-256) (255)) (hq : iK q) : z_ok (k_Tw_execute_83 x1 q) (fun o : Int32 × z_Sg => iK o.2 ∧ y_in o.1 (-1) (-1)) := by
  unfold k_Tw_execute_83
  refine z_ok_b (t_f_Ar_holds x1 q (z_w hx1 (by decide) (by decide)) hq) (fun r7 hr7 => ?_)
  refine z_ok_i (fun c61912 => ?_) (fun c61912 => ?_)
  · have z61913 : y_in r7 (0) (0) := z_w (z_eq1 c61912 (show y_in (0 : Int32) (0) (0) from ⟨by decide, by decide⟩)) (by decide) (by decide)
    exact t_k_Tw_execute_103 (0 : Int64) q (z_lw (show y_il (0 : Int64) (0) (0) from ⟨by decide, by decide⟩) (by decide) (by decide)) hq
  · have z61914 : y_in r7 (1) (1) := z_w (z_ne1 c61912 hr7 (by decide)) (by decide) (by decide)
    exact t_k_Tw_execute_103 (1 : Int64) q (z_lw (show y_il (1 : Int64) (1) (1) from ⟨by decide, by decide⟩) (by decide) (by decide)) hq

set_option maxHeartbeats 4000000 in
set_option maxRecDepth 100000 in
theorem t_f_Tw_execute (q : z_Sg) (hq : iK q) : z_ok (f_Tw_execute q) (fun o : Int32 × z_Sg => iK o.2 ∧ y_in o.1 (-1) (-1)) := by
  unfold f_Tw_execute
  refine z_ok_n (fun n1 en1 => ?_)
  have hn1 : y_in n1 (-256) (255) := z_e en1 (z_w (a' := -256) (b' := 255) (z_sub (iK_f11 hq) (show y_in (256 : Int32) (256) (256) from ⟨by decide, by decide⟩) (by decide) (by decide)) (by decide) (by decide))
  refine z_ok_i (fun c61915 => ?_) (fun c61915 => ?_)
  · have z61916 : y_in (n1 &&& (-8 : Int32)) (64) (64) := z_w (z_eq1 c61915 (show y_in (64 : Int32) (64) (64) from ⟨by decide, by decide⟩)) (by decide) (by decide)
    exact t_k_Tw_execute_68 n1 q hn1 hq
  · refine z_ok_i (fun c61917 => ?_) (fun c61917 => ?_)
    · have z61918 : y_in (n1 &&& (-8 : Int32)) (72) (72) := z_w (z_eq1 c61917 (show y_in (72 : Int32) (72) (72) from ⟨by decide, by decide⟩)) (by decide) (by decide)
      exact t_k_Tw_execute_68 n1 q hn1 hq
    · refine z_ok_i (fun c61919 => ?_) (fun c61919 => ?_)
      · have z61920 : y_in (n1 &&& (-8 : Int32)) (144) (144) := z_w (z_eq1 c61919 (show y_in (144 : Int32) (144) (144) from ⟨by decide, by decide⟩)) (by decide) (by decide)
        exact t_k_Tw_execute_83 n1 q hn1 hq
      · refine z_ok_i (fun c61921 => ?_) (fun c61921 => ?_)
        · have z61922 : y_in (n1 &&& (-8 : Int32)) (152) (152) := z_w (z_eq1 c61921 (show y_in (152 : Int32) (152) (152) from ⟨by decide, by decide⟩)) (by decide) (by decide)
          exact t_k_Tw_execute_83 n1 q hn1 hq
        · refine z_ok_i (fun c61923 => ?_) (fun c61923 => ?_)
          · have z61924 : y_in (n1 &&& (-8 : Int32)) (200) (200) := z_w (z_eq1 c61923 (show y_in (200 : Int32) (200) (200) from ⟨by decide, by decide⟩)) (by decide) (by decide)
            refine z_ok_b (t_f_Tw_turnBytes q hq) (fun r12 hr12 => ?_)
            exact t_k_Tw_execute_121 r12 hr12
          · refine z_ok_b (t_f_Tw_executeSingle n1 q hn1 hq) (fun r13 hr13 => ?_)
            exact t_k_Tw_execute_121 r13 hr13

set_option maxHeartbeats 4000000 in
set_option maxRecDepth 100000 in
theorem t_k_De_hasB_14 (t0 : Int32) (q : z_Sg) (ht0 : y_in t0 (0) (1)) (hq : iK q) : z_ok (k_De_hasB_14 t0 q) (fun o : Int32 => y_in o (0) (1)) := by
  unfold k_De_hasB_14
  refine z_ok_G (z_bi ht0) ?_
  exact z_ok_s ht0

set_option maxHeartbeats 4000000 in
set_option maxRecDepth 100000 in
theorem t_f_De_hasB (q : z_Sg) (hq : iK q) : z_ok (f_De_hasB q) (fun o : Int32 => y_in o (0) (1)) := by
  unfold f_De_hasB
  refine z_ok_i (fun c61925 => ?_) (fun c61925 => ?_)
  · have z61926 : y_in ((z_gI q 6) &&& (1 : Int32)) (0) (0) := z_w (z_eq1 c61925 (show y_in (0 : Int32) (0) (0) from ⟨by decide, by decide⟩)) (by decide) (by decide)
    exact t_k_De_hasB_14 (0 : Int32) q (z_w (show y_in (0 : Int32) (0) (0) from ⟨by decide, by decide⟩) (by decide) (by decide)) hq
  · have z61927 : y_in ((z_gI q 6) &&& (1 : Int32)) (1) (1) := z_w (z_ne1 c61925 (z_and (show y_in (1 : Int32) (1) (1) from ⟨by decide, by decide⟩) (by decide)) (by decide)) (by decide) (by decide)
    exact t_k_De_hasB_14 (1 : Int32) q (z_w (show y_in (1 : Int32) (1) (1) from ⟨by decide, by decide⟩) (by decide) (by decide)) hq

set_option maxHeartbeats 4000000 in
set_option maxRecDepth 100000 in
theorem t_k_On_changePlacesWithA_24 (q : z_Sg) (hq : iK q) : z_ok (k_On_changePlacesWithA_24 q) (fun o : z_Sg => iK o) := by
  unfold k_On_changePlacesWithA_24
  refine z_ok_b (t_f_De_sizeV q hq) (fun r2 hr2 => ?_)
  refine z_ok_b (t_f_Op_part (0 : Int32) r2 q (z_w (show y_in (0 : Int32) (0) (0) from ⟨by decide, by decide⟩) (by decide) (by decide)) (z_w hr2 (by decide) (by decide)) hq) (fun r3 hr3 => ?_)
  refine z_ok_b (t_f_De_registerO q hq) (fun r4 hr4 => ?_)
  refine z_ok_b (t_f_Op_part r4 r2 q hr4 (z_w hr2 (by decide) (by decide)) hq) (fun r5 hr5 => ?_)
  refine z_ok_b (t_f_Op_putPart (0 : Int32) r5 r2 q (z_w (show y_in (0 : Int32) (0) (0) from ⟨by decide, by decide⟩) (by decide) (by decide)) (z_w hr2 (by decide) (by decide)) hq) (fun r6 hr6 => ?_)
  refine z_ok_b (t_f_De_registerO r6 hr6) (fun r7 hr7 => ?_)
  refine z_ok_b (t_f_Op_putPart r7 r3 r2 r6 hr7 (z_w hr2 (by decide) (by decide)) hr6) (fun r8 hr8 => ?_)
  exact z_ok_s hr8

set_option maxHeartbeats 4000000 in
set_option maxRecDepth 100000 in
theorem t_f_On_changePlacesWithA (q : z_Sg) (hq : iK q) : z_ok (f_On_changePlacesWithA q) (fun o : z_Sg => iK o) := by
  unfold f_On_changePlacesWithA
  refine z_ok_i (fun c61928 => ?_) (fun c61928 => ?_)
  · have z61929 : y_in (z_gI q 11) (144) (144) := z_w (z_eq1 c61928 (show y_in (144 : Int32) (144) (144) from ⟨by decide, by decide⟩)) (by decide) (by decide)
    refine z_ok_b (t_f_De_hasB q hq) (fun r9 hr9 => ?_)
    refine z_ok_i (fun c61930 => ?_) (fun c61930 => ?_)
    · have z61931 : y_in r9 (0) (0) := z_w (z_eq1 c61930 (show y_in (0 : Int32) (0) (0) from ⟨by decide, by decide⟩)) (by decide) (by decide)
      exact z_ok_s hq
    · have z61932 : y_in r9 (1) (1) := z_w (z_ne1 c61930 hr9 (by decide)) (by decide) (by decide)
      exact t_k_On_changePlacesWithA_24 q hq
  · exact t_k_On_changePlacesWithA_24 q hq

set_option maxHeartbeats 4000000 in
set_option maxRecDepth 100000 in
theorem t_f_Ar_logic (x1 : Int64) (x3 : Int32) (q : z_Sg) (hx3 : y_in x3 (0) (8)) (hq : iK q) : z_ok (f_Ar_logic x1 x3 q) (fun o : Int64 × z_Sg => iK o.2) := by
  unfold f_Ar_logic
  refine z_ok_b (t_f_Ar_flagsOf x1 x3 q hx3 hq) (fun r1 hr1 => ?_)
  refine z_ok_b (t_f_Ar_settle (2245 : Int32) r1 (16 : Int32) q (z_w (show y_in (2245 : Int32) (2245) (2245) from ⟨by decide, by decide⟩) (by decide) (by decide)) (z_w hr1 (by decide) (by decide)) (z_w (show y_in (16 : Int32) (16) (16) from ⟨by decide, by decide⟩) (by decide) (by decide)) hq) (fun r2 hr2 => ?_)
  refine z_ok_b (t_f_Ar_maskOf x3 r2 hx3 hr2) (fun r3 hr3 => ?_)
  exact z_ok_s hr2

set_option maxHeartbeats 4000000 in
set_option maxRecDepth 100000 in
theorem t_k_Wi_isBelow_19 (t0 : Int32) (q : z_Sg) (ht0 : y_in t0 (0) (1)) (hq : iK q) : z_ok (k_Wi_isBelow_19 t0 q) (fun o : Int32 => y_in o (0) (1)) := by
  unfold k_Wi_isBelow_19
  refine z_ok_G (z_bi ht0) ?_
  exact z_ok_s ht0

set_option maxHeartbeats 4000000 in
set_option maxRecDepth 100000 in
theorem t_f_Wi_isBelow (x0 : Int64) (x2 : Int64) (q : z_Sg) (hq : iK q) : z_ok (f_Wi_isBelow x0 x2 q) (fun o : Int32 => y_in o (0) (1)) := by
  unfold f_Wi_isBelow
  refine z_ok_i (fun c61933 => ?_) (fun c61933 => ?_)
  · exact t_k_Wi_isBelow_19 (0 : Int32) q (z_w (show y_in (0 : Int32) (0) (0) from ⟨by decide, by decide⟩) (by decide) (by decide)) hq
  · exact t_k_Wi_isBelow_19 (1 : Int32) q (z_w (show y_in (1 : Int32) (1) (1) from ⟨by decide, by decide⟩) (by decide) (by decide)) hq

set_option maxHeartbeats 4000000 in
set_option maxRecDepth 100000 in
theorem t_k_Wi_divideMagnitudes_75 (ih12 : Int64 × Int64 × Int64 × Int64 × Int32 × z_Sg → Option z_Sg) (x3 : Int64) (x5 : Int64) (x8 : Int64) (x10 : Int64) (x12 : Int32) (q : z_Sg) (hi12 : ∀ (x3' : Int64) (x5' : Int64) (x8' : Int64) (x10' : Int64) (x12' : Int32) (q' : z_Sg), y_in x12' (-1) (63) → iK q' → (x12'.toInt - (-1)).toNat < (x12.toInt - (-1)).toNat → z_ok (ih12 (x3', x5', x8', x10', x12', q')) (fun o : z_Sg => iK o)) (hx12 : y_in x12 (0) (63)) (hq : iK q) : z_ok (k_Wi_divideMagnitudes_75 ih12 x3 x5 x8 x10 x12 q) (fun o : z_Sg => iK o) := by
  unfold k_Wi_divideMagnitudes_75
  refine z_ok_n (fun n10 en10 => ?_)
  have hn10 : y_in n10 (-1) (62) := z_e en10 (z_w (a' := -1) (b' := 62) (z_add hx12 (show y_in (-1 : Int32) (-1) (-1) from ⟨by decide, by decide⟩) (by decide) (by decide)) (by decide) (by decide))
  exact hi12 x3 x5 x8 x10 n10 q (z_w hn10 (by decide) (by decide)) hq (z_md (-1) 1 hx12 en10 (by decide) (by decide) (by decide) (by decide))

set_option maxHeartbeats 4000000 in
set_option maxRecDepth 100000 in
theorem t_k_Wi_divideMagnitudes_59 (ih12 : Int64 × Int64 × Int64 × Int64 × Int32 × z_Sg → Option z_Sg) (x3 : Int64) (x5 : Int64) (x8 : Int64) (x10 : Int64) (x12 : Int32) (q : z_Sg) (hi12 : ∀ (x3' : Int64) (x5' : Int64) (x8' : Int64) (x10' : Int64) (x12' : Int32) (q' : z_Sg), y_in x12' (-1) (63) → iK q' → (x12'.toInt - (-1)).toNat < (x12.toInt - (-1)).toNat → z_ok (ih12 (x3', x5', x8', x10', x12', q')) (fun o : z_Sg => iK o)) (hx12 : y_in x12 (0) (63)) (hq : iK q) : z_ok (k_Wi_divideMagnitudes_59 ih12 x3 x5 x8 x10 x12 q) (fun o : z_Sg => iK o) := by
  unfold k_Wi_divideMagnitudes_59
  refine z_ok_n (fun n8 en8 => ?_)
  refine z_ok_n (fun n9 en9 => ?_)
  exact t_k_Wi_divideMagnitudes_75 ih12 x3 x5 n9 n8 x12 q hi12 hx12 hq

set_option maxHeartbeats 4000000 in
set_option maxRecDepth 100000 in
theorem t_k_Wi_divideMagnitudes_29 (ih12 : Int64 × Int64 × Int64 × Int64 × Int32 × z_Sg → Option z_Sg) (x3 : Int64) (x5 : Int64) (x8 : Int64) (x10 : Int64) (x12 : Int32) (t0 : Int32) (q : z_Sg) (hi12 : ∀ (x3' : Int64) (x5' : Int64) (x8' : Int64) (x10' : Int64) (x12' : Int32) (q' : z_Sg), y_in x12' (-1) (63) → iK q' → (x12'.toInt - (-1)).toNat < (x12.toInt - (-1)).toNat → z_ok (ih12 (x3', x5', x8', x10', x12', q')) (fun o : z_Sg => iK o)) (hx12 : y_in x12 (0) (63)) (ht0 : y_in t0 (0) (1)) (hq : iK q) : z_ok (k_Wi_divideMagnitudes_29 ih12 x3 x5 x8 x10 x12 t0 q) (fun o : z_Sg => iK o) := by
  unfold k_Wi_divideMagnitudes_29
  refine z_ok_n (fun n6 en6 => ?_)
  refine z_ok_i (fun c61934 => ?_) (fun c61934 => ?_)
  · have z61935 : y_in t0 (0) (0) := z_w (z_eq1 c61934 (show y_in (0 : Int32) (0) (0) from ⟨by decide, by decide⟩)) (by decide) (by decide)
    refine z_ok_b (t_f_Wi_isBelow n6 x5 q hq) (fun r11 hr11 => ?_)
    refine z_ok_i (fun c61936 => ?_) (fun c61936 => ?_)
    · have z61937 : y_in r11 (0) (0) := z_w (z_eq1 c61936 (show y_in (0 : Int32) (0) (0) from ⟨by decide, by decide⟩)) (by decide) (by decide)
      exact t_k_Wi_divideMagnitudes_59 ih12 x3 x5 x8 n6 x12 q hi12 hx12 hq
    · have z61938 : y_in r11 (1) (1) := z_w (z_ne1 c61936 hr11 (by decide)) (by decide) (by decide)
      exact t_k_Wi_divideMagnitudes_75 ih12 x3 x5 x8 n6 x12 q hi12 hx12 hq
  · have z61939 : y_in t0 (1) (1) := z_w (z_ne1 c61934 ht0 (by decide)) (by decide) (by decide)
    exact t_k_Wi_divideMagnitudes_59 ih12 x3 x5 x8 n6 x12 q hi12 hx12 hq

set_option maxHeartbeats 4000000 in
set_option maxRecDepth 100000 in
theorem t_kb_Wi_divideMagnitudes_12 (ih12 : Int64 × Int64 × Int64 × Int64 × Int32 × z_Sg → Option z_Sg) (x3 : Int64) (x5 : Int64) (x8 : Int64) (x10 : Int64) (x12 : Int32) (q : z_Sg) (hi12 : ∀ (x3' : Int64) (x5' : Int64) (x8' : Int64) (x10' : Int64) (x12' : Int32) (q' : z_Sg), y_in x12' (-1) (63) → iK q' → (x12'.toInt - (-1)).toNat < (x12.toInt - (-1)).toNat → z_ok (ih12 (x3', x5', x8', x10', x12', q')) (fun o : z_Sg => iK o)) (hx12 : y_in x12 (-1) (63)) (hq : iK q) : z_ok (kb_Wi_divideMagnitudes_12 ih12 x3 x5 x8 x10 x12 q) (fun o : z_Sg => iK o) := by
  unfold kb_Wi_divideMagnitudes_12
  refine z_ok_i (fun c61940 => ?_) (fun c61940 => ?_)
  · have z61941 : y_in x12 (-1) (-1) := z_w (z_lt1 c61940 hx12 (show y_in (0 : Int32) (0) (0) from ⟨by decide, by decide⟩)) (by decide) (by decide)
    refine z_ok_n (fun q3 eq3 => ?_)
    have hq3 : iK q3 := by rw [eq3]; exact (iK_sL hq)
    refine z_ok_n (fun q4 eq4 => ?_)
    have hq4 : iK q4 := by rw [eq4]; exact (iK_sL hq3)
    exact z_ok_s hq4
  · have z61942 : y_in x12 (0) (63) := z_w (z_nlt1 c61940 hx12 (show y_in (0 : Int32) (0) (0) from ⟨by decide, by decide⟩)) (by decide) (by decide)
    refine z_ok_i (fun c61943 => ?_) (fun c61943 => ?_)
    · exact t_k_Wi_divideMagnitudes_29 ih12 x3 x5 x8 x10 x12 (0 : Int32) q hi12 z61942 (z_w (show y_in (0 : Int32) (0) (0) from ⟨by decide, by decide⟩) (by decide) (by decide)) hq
    · exact t_k_Wi_divideMagnitudes_29 ih12 x3 x5 x8 x10 x12 (1 : Int32) q hi12 z61942 (z_w (show y_in (1 : Int32) (1) (1) from ⟨by decide, by decide⟩) (by decide) (by decide)) hq

set_option maxHeartbeats 4000000 in
set_option maxRecDepth 100000 in
theorem t_k_Wi_divideMagnitudes_12 (x3 : Int64) (x5 : Int64) (x8 : Int64) (x10 : Int64) (x12 : Int32) (q : z_Sg) (hx8 : y_il x8 (0) (0)) (hx12 : y_in x12 (-1) (63)) (hq : iK q) : z_ok (k_Wi_divideMagnitudes_12 x3 x5 x8 x10 x12 q) (fun o : z_Sg => iK o) := by
  unfold k_Wi_divideMagnitudes_12
  refine z_ok_l (fun a : Int64 × Int64 × Int64 × Int64 × Int32 × z_Sg => y_in a.2.2.2.2.1 (-1) (63) ∧ iK a.2.2.2.2.2) (fun a => (a.2.2.2.2.1.toInt - (-1)).toNat) ?_ (x3, x5, x8, x10, x12, q) ⟨hx12, hq⟩ (by show ((x12.toInt - (-1)).toNat) < 2000; have z1 := hx12.1; have z2 := hx12.2; omega)
  intro ih a ha hih
  exact t_kb_Wi_divideMagnitudes_12 ih a.1 a.2.1 a.2.2.1 a.2.2.2.1 a.2.2.2.2.1 a.2.2.2.2.2 (fun x3' x5' x8' x10' x12' q' hx12' hq' hm => hih (x3', x5', x8', x10', x12', q') ⟨hx12', hq'⟩ hm) ha.1 ha.2

set_option maxHeartbeats 4000000 in
set_option maxRecDepth 100000 in
theorem t_f_Wi_divideMagnitudes (x1 : Int64) (x3 : Int64) (x5 : Int64) (x7 : Int32) (q : z_Sg) (hx7 : y_in x7 (0) (64)) (hq : iK q) : z_ok (f_Wi_divideMagnitudes x1 x3 x5 x7 q) (fun o : z_Sg => iK o) := by
  unfold f_Wi_divideMagnitudes
  refine z_ok_n (fun n1 en1 => ?_)
  have hn1 : y_in n1 (-1) (63) := z_e en1 (z_w (a' := -1) (b' := 63) (z_sub hx7 (show y_in (1 : Int32) (1) (1) from ⟨by decide, by decide⟩) (by decide) (by decide)) (by decide) (by decide))
  exact t_k_Wi_divideMagnitudes_12 x3 x5 (0 : Int64) x1 n1 q (show y_il (0 : Int64) (0) (0) from ⟨by decide, by decide⟩) hn1 hq

set_option maxHeartbeats 4000000 in
set_option maxRecDepth 100000 in
theorem t_k_Wi_divide_128 (q : z_Sg) (hq : iK q) : z_ok (k_Wi_divide_128 q) (fun o : Int32 × z_Sg => iK o.2 ∧ y_in o.1 (0) (1)) := by
  unfold k_Wi_divide_128
  exact z_ok_s ⟨hq, (z_w (show y_in (0 : Int32) (0) (0) from ⟨by decide, by decide⟩) (by decide) (by decide))⟩

set_option maxHeartbeats 4000000 in
set_option maxRecDepth 100000 in
theorem t_k_Wi_divide_237 (x9 : Int64) (t1 : Int64) (q : z_Sg) (hq : iK q) : z_ok (k_Wi_divide_237 x9 t1 q) (fun o : Int32 × z_Sg => iK o.2 ∧ y_in o.1 (0) (1)) := by
  unfold k_Wi_divide_237
  refine z_ok_n (fun q18 eq18 => ?_)
  have hq18 : iK q18 := by rw [eq18]; exact (iK_sL hq)
  refine z_ok_b (t_f_Ar_settle (0 : Int32) (0 : Int32) (2261 : Int32) q18 (z_w (show y_in (0 : Int32) (0) (0) from ⟨by decide, by decide⟩) (by decide) (by decide)) (z_w (show y_in (0 : Int32) (0) (0) from ⟨by decide, by decide⟩) (by decide) (by decide)) (z_w (show y_in (2261 : Int32) (2261) (2261) from ⟨by decide, by decide⟩) (by decide) (by decide)) hq18) (fun r19 hr19 => ?_)
  exact z_ok_s ⟨hr19, (z_w (show y_in (1 : Int32) (1) (1) from ⟨by decide, by decide⟩) (by decide) (by decide))⟩

set_option maxHeartbeats 4000000 in
set_option maxRecDepth 100000 in
theorem t_k_Wi_divide_213 (x9 : Int64) (x11 : Int32) (t1 : Int64) (q : z_Sg) (hx11 : y_in x11 (0) (1)) (hq : iK q) : z_ok (k_Wi_divide_213 x9 x11 t1 q) (fun o : Int32 × z_Sg => iK o.2 ∧ y_in o.1 (0) (1)) := by
  unfold k_Wi_divide_213
  refine z_ok_n (fun q16 eq16 => ?_)
  have hq16 : iK q16 := by rw [eq16]; exact (iK_sL hq)
  refine z_ok_i (fun c61944 => ?_) (fun c61944 => ?_)
  · have z61945 : y_in x11 (0) (0) := z_w (z_eq1 c61944 (show y_in (0 : Int32) (0) (0) from ⟨by decide, by decide⟩)) (by decide) (by decide)
    exact t_k_Wi_divide_237 x9 (z_gL q16 12) q16 hq16
  · have z61946 : y_in x11 (1) (1) := z_w (z_ne1 c61944 hx11 (by decide)) (by decide) (by decide)
    exact t_k_Wi_divide_237 x9 (-(z_gL q16 12)) q16 hq16

set_option maxHeartbeats 4000000 in
set_option maxRecDepth 100000 in
theorem t_k_Wi_divide_195 (x9 : Int64) (x11 : Int32) (x19 : Int32) (q : z_Sg) (hx11 : y_in x11 (0) (1)) (hx19 : y_in x19 (0) (1)) (hq : iK q) : z_ok (k_Wi_divide_195 x9 x11 x19 q) (fun o : Int32 × z_Sg => iK o.2 ∧ y_in o.1 (0) (1)) := by
  unfold k_Wi_divide_195
  refine z_ok_i (fun c61947 => ?_) (fun c61947 => ?_)
  · have z61948 : y_in x19 (0) (0) := z_w (z_eq1 c61947 (show y_in (0 : Int32) (0) (0) from ⟨by decide, by decide⟩)) (by decide) (by decide)
    exact t_k_Wi_divide_213 x9 x11 (z_gL q 11) q hx11 hq
  · have z61949 : y_in x19 (1) (1) := z_w (z_ne1 c61947 hx19 (by decide)) (by decide) (by decide)
    exact t_k_Wi_divide_213 x9 x11 (-(z_gL q 11)) q hx11 hq

set_option maxHeartbeats 4000000 in
set_option maxRecDepth 100000 in
theorem t_k_Wi_divide_173 (x8 : Int32) (x9 : Int64) (x11 : Int32) (x19 : Int32) (t0 : Int64) (t1 : Int64) (q : z_Sg) (hx8 : y_in x8 (0) (1)) (hx11 : y_in x11 (0) (1)) (hx19 : y_in x19 (0) (1)) (ht1 : y_il t1 (0) (1)) (hq : iK q) : z_ok (k_Wi_divide_173 x8 x9 x11 x19 t0 t1 q) (fun o : Int32 × z_Sg => iK o.2 ∧ y_in o.1 (0) (1)) := by
  unfold k_Wi_divide_173
  refine z_ok_n (fun n13 en13 => ?_)
  refine z_ok_i (fun c61950 => ?_) (fun c61950 => ?_)
  · have z61951 : y_in x8 (0) (0) := z_w (z_eq1 c61950 (show y_in (0 : Int32) (0) (0) from ⟨by decide, by decide⟩)) (by decide) (by decide)
    exact t_k_Wi_divide_195 x9 x11 x19 q hx11 hx19 hq
  · have z61952 : y_in x8 (1) (1) := z_w (z_ne1 c61950 hx8 (by decide)) (by decide) (by decide)
    refine z_ok_b (t_f_Wi_isBelow n13 (z_gL q 11) q hq) (fun r20 hr20 => ?_)
    refine z_ok_i (fun c61953 => ?_) (fun c61953 => ?_)
    · have z61954 : y_in r20 (0) (0) := z_w (z_eq1 c61953 (show y_in (0 : Int32) (0) (0) from ⟨by decide, by decide⟩)) (by decide) (by decide)
      exact t_k_Wi_divide_195 x9 x11 x19 q hx11 hx19 hq
    · have z61955 : y_in r20 (1) (1) := z_w (z_ne1 c61953 hr20 (by decide)) (by decide) (by decide)
      exact z_ok_s ⟨hq, (z_w (show y_in (0 : Int32) (0) (0) from ⟨by decide, by decide⟩) (by decide) (by decide))⟩

set_option maxHeartbeats 4000000 in
set_option maxRecDepth 100000 in
theorem t_k_Wi_divide_157 (x8 : Int32) (x9 : Int64) (x11 : Int32) (t0 : Int32) (q : z_Sg) (hx8 : y_in x8 (0) (1)) (hx11 : y_in x11 (0) (1)) (ht0 : y_in t0 (0) (1)) (hq : iK q) : z_ok (k_Wi_divide_157 x8 x9 x11 t0 q) (fun o : Int32 × z_Sg => iK o.2 ∧ y_in o.1 (0) (1)) := by
  unfold k_Wi_divide_157
  refine z_ok_i (fun c61956 => ?_) (fun c61956 => ?_)
  · have z61957 : y_in t0 (0) (0) := z_w (z_eq1 c61956 (show y_in (0 : Int32) (0) (0) from ⟨by decide, by decide⟩)) (by decide) (by decide)
    exact t_k_Wi_divide_173 x8 x9 x11 t0 (z_lushr x9 (1 : Int32)) (0 : Int64) q hx8 hx11 (z_w z61957 (by decide) (by decide)) (z_lw (show y_il (0 : Int64) (0) (0) from ⟨by decide, by decide⟩) (by decide) (by decide)) hq
  · have z61958 : y_in t0 (1) (1) := z_w (z_ne1 c61956 ht0 (by decide)) (by decide) (by decide)
    exact t_k_Wi_divide_173 x8 x9 x11 t0 (z_lushr x9 (1 : Int32)) (1 : Int64) q hx8 hx11 (z_w z61958 (by decide) (by decide)) (z_lw (show y_il (1 : Int64) (1) (1) from ⟨by decide, by decide⟩) (by decide) (by decide)) hq

set_option maxHeartbeats 4000000 in
set_option maxRecDepth 100000 in
theorem t_k_Wi_divide_111 (x7 : Int32) (x8 : Int32) (x9 : Int64) (x11 : Int32) (x12 : Int32) (x13 : Int64) (x15 : Int64) (x17 : Int64) (q : z_Sg) (hx7 : y_in x7 (0) (8)) (hx8 : y_in x8 (0) (1)) (hx11 : y_in x11 (0) (1)) (hx12 : y_in x12 (0) (1)) (hq : iK q) : z_ok (k_Wi_divide_111 x7 x8 x9 x11 x12 x13 x15 x17 q) (fun o : Int32 × z_Sg => iK o.2 ∧ y_in o.1 (0) (1)) := by
  unfold k_Wi_divide_111
  refine z_ok_i (fun c61959 => ?_) (fun c61959 => ?_)
  · exact t_k_Wi_divide_128 q hq
  · refine z_ok_b (t_f_Wi_isBelow x15 x13 q hq) (fun r8 hr8 => ?_)
    refine z_ok_i (fun c61960 => ?_) (fun c61960 => ?_)
    · have z61961 : y_in r8 (0) (0) := z_w (z_eq1 c61960 (show y_in (0 : Int32) (0) (0) from ⟨by decide, by decide⟩)) (by decide) (by decide)
      exact t_k_Wi_divide_128 q hq
    · have z61962 : y_in r8 (1) (1) := z_w (z_ne1 c61960 hr8 (by decide)) (by decide) (by decide)
      refine z_ok_b (t_f_Wi_divideMagnitudes x15 x17 x13 ((8 : Int32) * x7) q (z_w (a' := 0) (b' := 64) (z_mul (show y_in (8 : Int32) (8) (8) from ⟨by decide, by decide⟩) hx7 (by decide) (by decide) (by decide)) (by decide) (by decide)) hq) (fun r10 hr10 => ?_)
      refine z_ok_i (fun c61963 => ?_) (fun c61963 => ?_)
      · exact t_k_Wi_divide_157 x8 x9 x11 (0 : Int32) r10 hx8 hx11 (z_w (show y_in (0 : Int32) (0) (0) from ⟨by decide, by decide⟩) (by decide) (by decide)) hr10
      · exact t_k_Wi_divide_157 x8 x9 x11 (1 : Int32) r10 hx8 hx11 (z_w (show y_in (1 : Int32) (1) (1) from ⟨by decide, by decide⟩) (by decide) (by decide)) hr10

set_option maxHeartbeats 4000000 in
set_option maxRecDepth 100000 in
theorem t_k_Wi_divide_106 (x7 : Int32) (x8 : Int32) (x9 : Int64) (x11 : Int32) (x12 : Int32) (x13 : Int64) (x17 : Int64) (t0 : Int64) (q : z_Sg) (hx7 : y_in x7 (0) (8)) (hx8 : y_in x8 (0) (1)) (hx11 : y_in x11 (1) (1)) (hx12 : y_in x12 (0) (1)) (hq : iK q) : z_ok (k_Wi_divide_106 x7 x8 x9 x11 x12 x13 x17 t0 q) (fun o : Int32 × z_Sg => iK o.2 ∧ y_in o.1 (0) (1)) := by
  unfold k_Wi_divide_106
  refine z_ok_n (fun n24 en24 => ?_)
  exact t_k_Wi_divide_111 x7 x8 x9 x11 x12 x13 n24 x17 q hx7 hx8 (z_w hx11 (by decide) (by decide)) hx12 hq
