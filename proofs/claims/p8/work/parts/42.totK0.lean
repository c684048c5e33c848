
theorem t_f_Pa_putByte (x1 x3 : Int64) (q : z_Sg) (hq : iK q) : z_ok (f_Pa_putByte x1 x3 q) (fun o : z_Sg => iK o) := by
  unfold f_Pa_putByte k_Pa_putByte_14
  refine z_ok_i (fun c1 => z_ok_s hq) (fun c1 => ?_)
  refine z_ok_i (fun c2 => ?_) (fun c2 => z_ok_s hq)
  obtain ⟨n, -, -, -, hb, -, -⟩ := z_ix c1 c2
  refine z_ok_n (fun n3 en3 => ?_)
  refine z_ok_n (fun n4 en4 => ?_)
  rw [← en3] at hb
  refine z_ok_g hb (z_ok_g hb ?_)
  refine z_ok_n (fun q7 eq7 => ?_)
  exact z_ok_s (by rw [eq7]; exact iK_sM hq)

set_option maxHeartbeats 4000000 in
set_option maxRecDepth 100000 in
theorem t_k_Co_store_11 (q : z_Sg) (hq : iK q) : z_ok (k_Co_store_11 q) (fun o : Int32 × z_Sg => iK o.2 ∧ y_in o.1 (0) (1)) := by
  unfold k_Co_store_11
  exact z_ok_s ⟨hq, (z_w (show y_in (0 : Int32) (0) (0) from ⟨by decide, by decide⟩) (by decide) (by decide))⟩

set_option maxHeartbeats 4000000 in
set_option maxRecDepth 100000 in
theorem t_kb_Co_store_16 (ih16 : Int32 × Int32 × Int32 × Int32 × z_Sg → Option (Int32 × z_Sg)) (x1 : Int32) (x2 : Int32) (x3 : Int32) (x4 : Int32) (q : z_Sg) (hi16 : ∀ (x1' : Int32) (x2' : Int32) (x3' : Int32) (x4' : Int32) (q' : z_Sg), y_in x1' (0) (32760) → y_in x4' (0) (4) → iK q' → (4 - x4'.toInt).toNat < (4 - x4.toInt).toNat → z_ok (ih16 (x1', x2', x3', x4', q')) (fun o : Int32 × z_Sg => iK o.2 ∧ y_in o.1 (0) (1))) (hx1 : y_in x1 (0) (32760)) (hx4 : y_in x4 (0) (4)) (hq : iK q) : z_ok (kb_Co_store_16 ih16 x1 x2 x3 x4 q) (fun o : Int32 × z_Sg => iK o.2 ∧ y_in o.1 (0) (1)) := by
  unfold kb_Co_store_16
  refine z_ok_i (fun c60641 => ?_) (fun c60641 => ?_)
  · have z60642 : y_in x4 (4) (4) := z_w (z_le2 c60641 (show y_in (4 : Int32) (4) (4) from ⟨by decide, by decide⟩) hx4) (by decide) (by decide)
    exact z_ok_s ⟨hq, (z_w (show y_in (1 : Int32) (1) (1) from ⟨by decide, by decide⟩) (by decide) (by decide))⟩
  · have z60643 : y_in x4 (0) (3) := z_w (z_nle2 c60641 (show y_in (4 : Int32) (4) (4) from ⟨by decide, by decide⟩) hx4) (by decide) (by decide)
    refine z_ok_b (t_f_Pa_putByte (x1 + x4).toInt64 (z_iushr x2 ((8 : Int32) * x4)).toInt64 q hq) (fun r4 hr4 => ?_)
    refine z_ok_b (t_f_Pa_putByte ((x1 + (4 : Int32)) + x4).toInt64 (z_iushr x3 ((8 : Int32) * x4)).toInt64 r4 hr4) (fun r5 hr5 => ?_)
    refine z_ok_n (fun n6 en6 => ?_)
    have hn6 : y_in n6 (1) (4) := z_e en6 (z_w (a' := 1) (b' := 4) (z_add z60643 (show y_in (1 : Int32) (1) (1) from ⟨by decide, by decide⟩) (by decide) (by decide)) (by decide) (by decide))
    exact hi16 x1 x2 x3 n6 r5 hx1 (z_w hn6 (by decide) (by decide)) hr5 (z_mu (4) 1 z60643 en6 (by decide) (by decide) (by decide) (by decide))

set_option maxHeartbeats 4000000 in
set_option maxRecDepth 100000 in
theorem t_k_Co_store_16 (x1 : Int32) (x2 : Int32) (x3 : Int32) (x4 : Int32) (q : z_Sg) (hx1 : y_in x1 (0) (32760)) (hx4 : y_in x4 (0) (0)) (hq : iK q) : z_ok (k_Co_store_16 x1 x2 x3 x4 q) (fun o : Int32 × z_Sg => iK o.2 ∧ y_in o.1 (0) (1)) := by
  unfold k_Co_store_16
  refine z_ok_l (fun a : Int32 × Int32 × Int32 × Int32 × z_Sg => y_in a.1 (0) (32760) ∧ y_in a.2.2.2.1 (0) (4) ∧ iK a.2.2.2.2) (fun a => (4 - a.2.2.2.1.toInt).toNat) ?_ (x1, x2, x3, x4, q) ⟨hx1, (z_w hx4 (by decide) (by decide)), hq⟩ (by show ((4 - x4.toInt).toNat) < 2000; have z1 := hx4.1; have z2 := hx4.2; omega)
  intro ih a ha hih
  exact t_kb_Co_store_16 ih a.1 a.2.1 a.2.2.1 a.2.2.2.1 a.2.2.2.2 (fun x1' x2' x3' x4' q' hx1' hx4' hq' hm => hih (x1', x2', x3', x4', q') ⟨hx1', hx4', hq'⟩ hm) ha.1 ha.2.1 ha.2.2

set_option maxHeartbeats 4000000 in
set_option maxRecDepth 100000 in
theorem t_f_Co_store (x1 : Int32) (x2 : Int32) (x3 : Int32) (q : z_Sg) (hq : iK q) : z_ok (f_Co_store x1 x2 x3 q) (fun o : Int32 × z_Sg => iK o.2 ∧ y_in o.1 (0) (1)) := by
  unfold f_Co_store
  refine z_ok_i (fun c60644 => ?_) (fun c60644 => ?_)
  · have z60645 : y_in x1 (-2147483648) (-1) := z_w (z_lt1 c60644 (z_full _) (show y_in (0 : Int32) (0) (0) from ⟨by decide, by decide⟩)) (by decide) (by decide)
    exact t_k_Co_store_11 q hq
  · have z60646 : y_in x1 (0) (2147483647) := z_w (z_nlt1 c60644 (z_full _) (show y_in (0 : Int32) (0) (0) from ⟨by decide, by decide⟩)) (by decide) (by decide)
    refine z_ok_i (fun c60647 => ?_) (fun c60647 => ?_)
    · have z60648 : y_in x1 (0) (32760) := z_w (z_le1 c60647 z60646 (show y_in (32760 : Int32) (32760) (32760) from ⟨by decide, by decide⟩)) (by decide) (by decide)
      exact t_k_Co_store_16 x1 x2 x3 (0 : Int32) q z60648 (show y_in (0 : Int32) (0) (0) from ⟨by decide, by decide⟩) hq
    · have z60649 : y_in x1 (32761) (2147483647) := z_w (z_nle1 c60647 z60646 (show y_in (32760 : Int32) (32760) (32760) from ⟨by decide, by decide⟩)) (by decide) (by decide)
      exact t_k_Co_store_11 q hq


theorem t_f_Pa_byteAt (x1 : Int64) (q : z_Sg) (hq : iK q) : z_ok (f_Pa_byteAt x1 q) (fun o : Int32 => y_in o 0 255) := by
  unfold f_Pa_byteAt k_Pa_byteAt_14
  refine z_ok_i (fun c1 => z_ok_s (show y_in (0 : Int32) 0 255 from ⟨by decide, by decide⟩)) (fun c1 => ?_)
  refine z_ok_i (fun c2 => ?_) (fun c2 => z_ok_s (show y_in (0 : Int32) 0 255 from ⟨by decide, by decide⟩))
  obtain ⟨n, -, -, -, hb, -, -⟩ := z_ix c1 c2
  refine z_ok_n (fun n3 en3 => ?_)
  refine z_ok_g hb ?_
  exact z_ok_s (z_and (show y_in (255 : Int32) 255 255 from ⟨by decide, by decide⟩) (by decide))

set_option maxHeartbeats 4000000 in
set_option maxRecDepth 100000 in
theorem t_kb_Co_stored_5 (ih5 : Int32 × Int64 × Int32 → Option Int64) (x1 : Int32) (x2 : Int64) (x4 : Int32) (q : z_Sg) (hi5 : ∀ (x1' : Int32) (x2' : Int64) (x4' : Int32), y_in x4' (0) (8) → (8 - x4'.toInt).toNat < (8 - x4.toInt).toNat → z_ok (ih5 (x1', x2', x4')) (fun _ : Int64 => True)) (hx4 : y_in x4 (0) (8)) (hq : iK q) : z_ok (kb_Co_stored_5 ih5 x1 x2 x4 q) (fun _ : Int64 => True) := by
  unfold kb_Co_stored_5
  refine z_ok_i (fun c60650 => ?_) (fun c60650 => ?_)
  · have z60651 : y_in x4 (8) (8) := z_w (z_le2 c60650 (show y_in (8 : Int32) (8) (8) from ⟨by decide, by decide⟩) hx4) (by decide) (by decide)
    exact z_ok_s trivial
  · have z60652 : y_in x4 (0) (7) := z_w (z_nle2 c60650 (show y_in (8 : Int32) (8) (8) from ⟨by decide, by decide⟩) hx4) (by decide) (by decide)
    refine z_ok_b (t_f_Pa_byteAt (x1.toInt64 + x4.toInt64) q hq) (fun r2 hr2 => ?_)
    refine z_ok_n (fun n3 en3 => ?_)
    refine z_ok_n (fun n4 en4 => ?_)
    have hn4 : y_in n4 (1) (8) := z_e en4 (z_w (a' := 1) (b' := 8) (z_add z60652 (show y_in (1 : Int32) (1) (1) from ⟨by decide, by decide⟩) (by decide) (by decide)) (by decide) (by decide))
    exact hi5 x1 n3 n4 (z_w hn4 (by decide) (by decide)) (z_mu (8) 1 z60652 en4 (by decide) (by decide) (by decide) (by decide))

set_option maxHeartbeats 4000000 in
set_option maxRecDepth 100000 in
theorem t_k_Co_stored_5 (x1 : Int32) (x2 : Int64) (x4 : Int32) (q : z_Sg) (hx2 : y_il x2 (0) (0)) (hx4 : y_in x4 (0) (0)) (hq : iK q) : z_ok (k_Co_stored_5 x1 x2 x4 q) (fun _ : Int64 => True) := by
  unfold k_Co_stored_5
  refine z_ok_l (fun a : Int32 × Int64 × Int32 => y_in a.2.2 (0) (8)) (fun a => (8 - a.2.2.toInt).toNat) ?_ (x1, x2, x4) (z_w hx4 (by decide) (by decide)) (by show ((8 - x4.toInt).toNat) < 2000; have z1 := hx4.1; have z2 := hx4.2; omega)
  intro ih a ha hih
  exact t_kb_Co_stored_5 ih a.1 a.2.1 a.2.2 q (fun x1' x2' x4' hx4' hm => hih (x1', x2', x4') hx4' hm) ha hq

set_option maxHeartbeats 4000000 in
set_option maxRecDepth 100000 in
theorem t_f_Co_stored (x1 : Int32) (q : z_Sg) (hq : iK q) : z_ok (f_Co_stored x1 q) (fun _ : Int64 => True) := by
  unfold f_Co_stored
  exact t_k_Co_stored_5 x1 (0 : Int64) (0 : Int32) q (show y_il (0 : Int64) (0) (0) from ⟨by decide, by decide⟩) (show y_in (0 : Int32) (0) (0) from ⟨by decide, by decide⟩) hq

set_option maxHeartbeats 4000000 in
set_option maxRecDepth 100000 in
theorem t_f_Co_joined (x0 : Int32) (x1 : Int32) (q : z_Sg) (hq : iK q) : z_ok (f_Co_joined x0 x1 q) (fun _ : Int64 => True) := by
  unfold f_Co_joined
  exact z_ok_s trivial

set_option maxHeartbeats 4000000 in
set_option maxRecDepth 100000 in
theorem t_k_Co_set_30 (x1 : Int32) (x3 : Int32) (x4 : Int64) (q : z_Sg) (hq : iK q) : z_ok (k_Co_set_30 x1 x3 x4 q) (fun o : Int32 × z_Sg => iK o.2 ∧ y_in o.1 (0) (1)) := by
  unfold k_Co_set_30
  refine z_ok_i (fun c60653 => ?_) (fun c60653 => ?_)
  · have z60654 : y_in x1 (16) (16) := z_w (z_eq1 c60653 (show y_in (16 : Int32) (16) (16) from ⟨by decide, by decide⟩)) (by decide) (by decide)
    refine z_ok_n (fun q4 eq4 => ?_)
    have hq4 : iK q4 := by rw [eq4]; exact (iK_sL hq)
    exact z_ok_s ⟨hq4, (z_w (show y_in (1 : Int32) (1) (1) from ⟨by decide, by decide⟩) (by decide) (by decide))⟩
  · refine z_ok_i (fun c60655 => ?_) (fun c60655 => ?_)
    · have z60656 : y_in x1 (17) (17) := z_w (z_eq1 c60655 (show y_in (17 : Int32) (17) (17) from ⟨by decide, by decide⟩)) (by decide) (by decide)
      refine z_ok_n (fun q6 eq6 => ?_)
      have hq6 : iK q6 := by rw [eq6]; exact (iK_sL hq)
      exact z_ok_s ⟨hq6, (z_w (show y_in (1 : Int32) (1) (1) from ⟨by decide, by decide⟩) (by decide) (by decide))⟩
    · refine z_ok_i (fun c60657 => ?_) (fun c60657 => ?_)
      · have z60658 : y_in x1 (18) (18) := z_w (z_eq1 c60657 (show y_in (18 : Int32) (18) (18) from ⟨by decide, by decide⟩)) (by decide) (by decide)
        refine z_ok_n (fun q8 eq8 => ?_)
        have hq8 : iK q8 := by rw [eq8]; exact (iK_sL hq)
        exact z_ok_s ⟨hq8, (z_w (show y_in (1 : Int32) (1) (1) from ⟨by decide, by decide⟩) (by decide) (by decide))⟩
      · refine z_ok_i (fun c60659 => ?_) (fun c60659 => ?_)
        · have z60660 : y_in x1 (19) (19) := z_w (z_eq1 c60659 (show y_in (19 : Int32) (19) (19) from ⟨by decide, by decide⟩)) (by decide) (by decide)
          refine z_ok_n (fun q10 eq10 => ?_)
          have hq10 : iK q10 := by rw [eq10]; exact (iK_sL hq)
          exact z_ok_s ⟨hq10, (z_w (show y_in (1 : Int32) (1) (1) from ⟨by decide, by decide⟩) (by decide) (by decide))⟩
        · refine z_ok_i (fun c60661 => ?_) (fun c60661 => ?_)
          · have z60662 : y_in x1 (20) (20) := z_w (z_eq1 c60661 (show y_in (20 : Int32) (20) (20) from ⟨by decide, by decide⟩)) (by decide) (by decide)
            refine z_ok_n (fun q12 eq12 => ?_)
            have hq12 : iK q12 := by rw [eq12]; exact (iK_sI0 hq)
            exact z_ok_s ⟨hq12, (z_w (show y_in (1 : Int32) (1) (1) from ⟨by decide, by decide⟩) (by decide) (by decide))⟩
          · refine z_ok_i (fun c60663 => ?_) (fun c60663 => ?_)
            · have z60664 : y_in x1 (21) (21) := z_w (z_eq1 c60663 (show y_in (21 : Int32) (21) (21) from ⟨by decide, by decide⟩)) (by decide) (by decide)
              refine z_ok_n (fun q14 eq14 => ?_)
              have hq14 : iK q14 := by rw [eq14]; exact (iK_sL hq)
              exact z_ok_s ⟨hq14, (z_w (show y_in (1 : Int32) (1) (1) from ⟨by decide, by decide⟩) (by decide) (by decide))⟩
            · exact z_ok_s ⟨hq, (z_w (show y_in (0 : Int32) (0) (0) from ⟨by decide, by decide⟩) (by decide) (by decide))⟩

set_option maxHeartbeats 4000000 in
set_option maxRecDepth 100000 in
theorem t_f_Co_set (x1 : Int32) (x2 : Int32) (x3 : Int32) (q : z_Sg) (hq : iK q) : z_ok (f_Co_set x1 x2 x3 q) (fun o : Int32 × z_Sg => iK o.2 ∧ y_in o.1 (0) (1)) := by
  unfold f_Co_set
  refine z_ok_b (t_f_Co_joined x2 x3 q hq) (fun r1 hr1 => ?_)
  refine z_ok_i (fun c60665 => ?_) (fun c60665 => ?_)
  · have z60666 : y_in x1 (-2147483648) (-1) := z_w (z_lt1 c60665 (z_full _) (show y_in (0 : Int32) (0) (0) from ⟨by decide, by decide⟩)) (by decide) (by decide)
    exact t_k_Co_set_30 x1 x3 r1 q hq
  · have z60667 : y_in x1 (0) (2147483647) := z_w (z_nlt1 c60665 (z_full _) (show y_in (0 : Int32) (0) (0) from ⟨by decide, by decide⟩)) (by decide) (by decide)
    refine z_ok_i (fun c60668 => ?_) (fun c60668 => ?_)
    · have z60669 : y_in x1 (16) (2147483647) := z_w (z_le2 c60668 (show y_in (16 : Int32) (16) (16) from ⟨by decide, by decide⟩) z60667) (by decide) (by decide)
      exact t_k_Co_set_30 x1 x3 r1 q hq
    · have z60670 : y_in x1 (0) (15) := z_w (z_nle2 c60668 (show y_in (16 : Int32) (16) (16) from ⟨by decide, by decide⟩) z60667) (by decide) (by decide)
      refine z_ok_g (z_nbad z60670 (by decide)) ?_
      refine z_ok_n (fun q17 eq17 => ?_)
      have hq17 : iK q17 := by rw [eq17]; exact (iK_sM hq)
      exact z_ok_s ⟨hq17, (z_w (show y_in (1 : Int32) (1) (1) from ⟨by decide, by decide⟩) (by decide) (by decide))⟩

set_option maxHeartbeats 4000000 in
set_option maxRecDepth 100000 in
theorem t_k_Co_get_155 (t0 : Int64) (q : z_Sg) (ht0 : y_il t0 (0) (3)) (hq : iK q) : z_ok (k_Co_get_155 t0 q) (fun _ : Int64 => True) := by
  unfold k_Co_get_155
  exact z_ok_s trivial

set_option maxHeartbeats 4000000 in
set_option maxRecDepth 100000 in
theorem t_k_Co_get_20 (x1 : Int32) (q : z_Sg) (hq : iK q) : z_ok (k_Co_get_20 x1 q) (fun _ : Int64 => True) := by
  unfold k_Co_get_20
  refine z_ok_i (fun c60671 => ?_) (fun c60671 => ?_)
  · have z60672 : y_in x1 (16) (16) := z_w (z_eq1 c60671 (show y_in (16 : Int32) (16) (16) from ⟨by decide, by decide⟩)) (by decide) (by decide)
    exact z_ok_s trivial
  · refine z_ok_i (fun c60673 => ?_) (fun c60673 => ?_)
    · have z60674 : y_in x1 (17) (17) := z_w (z_eq1 c60673 (show y_in (17 : Int32) (17) (17) from ⟨by decide, by decide⟩)) (by decide) (by decide)
      exact z_ok_s trivial
    · refine z_ok_i (fun c60675 => ?_) (fun c60675 => ?_)
      · have z60676 : y_in x1 (18) (18) := z_w (z_eq1 c60675 (show y_in (18 : Int32) (18) (18) from ⟨by decide, by decide⟩)) (by decide) (by decide)
        exact z_ok_s trivial
      · refine z_ok_i (fun c60677 => ?_) (fun c60677 => ?_)
        · have z60678 : y_in x1 (19) (19) := z_w (z_eq1 c60677 (show y_in (19 : Int32) (19) (19) from ⟨by decide, by decide⟩)) (by decide) (by decide)
          exact z_ok_s trivial
        · refine z_ok_i (fun c60679 => ?_) (fun c60679 => ?_)
          · have z60680 : y_in x1 (20) (20) := z_w (z_eq1 c60679 (show y_in (20 : Int32) (20) (20) from ⟨by decide, by decide⟩)) (by decide) (by decide)
            exact z_ok_s trivial
          · refine z_ok_i (fun c60681 => ?_) (fun c60681 => ?_)
            · have z60682 : y_in x1 (21) (21) := z_w (z_eq1 c60681 (show y_in (21 : Int32) (21) (21) from ⟨by decide, by decide⟩)) (by decide) (by decide)
              exact z_ok_s trivial
            · refine z_ok_i (fun c60683 => ?_) (fun c60683 => ?_)
              · have z60684 : y_in x1 (22) (22) := z_w (z_eq1 c60683 (show y_in (22 : Int32) (22) (22) from ⟨by decide, by decide⟩)) (by decide) (by decide)
                exact z_ok_s trivial
              · refine z_ok_i (fun c60685 => ?_) (fun c60685 => ?_)
                · have z60686 : y_in x1 (23) (23) := z_w (z_eq1 c60685 (show y_in (23 : Int32) (23) (23) from ⟨by decide, by decide⟩)) (by decide) (by decide)
                  exact z_ok_s trivial
                · refine z_ok_i (fun c60687 => ?_) (fun c60687 => ?_)
                  · have z60688 : y_in x1 (24) (24) := z_w (z_eq1 c60687 (show y_in (24 : Int32) (24) (24) from ⟨by decide, by decide⟩)) (by decide) (by decide)
                    refine z_ok_i (fun c60689 => ?_) (fun c60689 => ?_)
                    · have z60690 : y_in (z_gI q 2) (0) (0) := z_w (z_eq1 c60689 (show y_in (0 : Int32) (0) (0) from ⟨by decide, by decide⟩)) (by decide) (by decide)
                      exact t_k_Co_get_155 (0 : Int64) q (z_lw (show y_il (0 : Int64) (0) (0) from ⟨by decide, by decide⟩) (by decide) (by decide)) hq
                    · have z60691 : y_in (z_gI q 2) (1) (1) := z_w (z_ne1 c60689 (iK_f2 hq) (by decide)) (by decide) (by decide)
                      exact t_k_Co_get_155 (3 : Int64) q (z_lw (show y_il (3 : Int64) (3) (3) from ⟨by decide, by decide⟩) (by decide) (by decide)) hq
                  · exact z_ok_s trivial

set_option maxHeartbeats 4000000 in
set_option maxRecDepth 100000 in
theorem t_f_Co_get (x1 : Int32) (q : z_Sg) (hq : iK q) : z_ok (f_Co_get x1 q) (fun _ : Int64 => True) := by
  unfold f_Co_get
  refine z_ok_i (fun c60692 => ?_) (fun c60692 => ?_)
  · have z60693 : y_in x1 (-2147483648) (-1) := z_w (z_lt1 c60692 (z_full _) (show y_in (0 : Int32) (0) (0) from ⟨by decide, by decide⟩)) (by decide) (by decide)
    exact t_k_Co_get_20 x1 q hq
  · have z60694 : y_in x1 (0) (2147483647) := z_w (z_nlt1 c60692 (z_full _) (show y_in (0 : Int32) (0) (0) from ⟨by decide, by decide⟩)) (by decide) (by decide)
    refine z_ok_i (fun c60695 => ?_) (fun c60695 => ?_)
    · have z60696 : y_in x1 (16) (2147483647) := z_w (z_le2 c60695 (show y_in (16 : Int32) (16) (16) from ⟨by decide, by decide⟩) z60694) (by decide) (by decide)
      exact t_k_Co_get_20 x1 q hq
    · have z60697 : y_in x1 (0) (15) := z_w (z_nle2 c60695 (show y_in (16 : Int32) (16) (16) from ⟨by decide, by decide⟩) z60694) (by decide) (by decide)
      refine z_ok_g (z_nbad z60697 (by decide)) ?_
      exact z_ok_s trivial

set_option maxHeartbeats 4000000 in
set_option maxRecDepth 100000 in
theorem t_f_Co_level (x1 : Int32) (q : z_Sg) (hx1 : y_in x1 (0) (1)) (hq : iK q) : z_ok (f_Co_level x1 q) (fun o : z_Sg => iK o) := by
  unfold f_Co_level
  refine z_ok_G (z_bi hx1) ?_
  refine z_ok_n (fun q2 eq2 => ?_)
  have hq2 : iK q2 := by rw [eq2]; exact (iK_sI2 hq hx1)
  exact z_ok_s hq2

set_option maxHeartbeats 4000000 in
set_option maxRecDepth 100000 in
theorem t_k_Pa_isWrong_24 (t0 : Int32) (q : z_Sg) (ht0 : y_in t0 (0) (1)) (hq : iK q) : z_ok (k_Pa_isWrong_24 t0 q) (fun o : Int32 => y_in o (0) (1)) := by
  unfold k_Pa_isWrong_24
  refine z_ok_G (z_bi ht0) ?_
  exact z_ok_s ht0

set_option maxHeartbeats 4000000 in
set_option maxRecDepth 100000 in
theorem t_k_Pa_isWrong_23 (q : z_Sg) (hq : iK q) : z_ok (k_Pa_isWrong_23 q) (fun o : Int32 => y_in o (0) (1)) := by
  unfold k_Pa_isWrong_23
  exact t_k_Pa_isWrong_24 (0 : Int32) q (z_w (show y_in (0 : Int32) (0) (0) from ⟨by decide, by decide⟩) (by decide) (by decide)) hq

set_option maxHeartbeats 4000000 in
set_option maxRecDepth 100000 in
theorem t_f_Pa_isWrong (x0 : Int64) (q : z_Sg) (hq : iK q) : z_ok (f_Pa_isWrong x0 q) (fun o : Int32 => y_in o (0) (1)) := by
  unfold f_Pa_isWrong
  refine z_ok_n (fun n1 en1 => ?_)
  refine z_ok_i (fun c60698 => ?_) (fun c60698 => ?_)
  · exact t_k_Pa_isWrong_23 q hq
  · refine z_ok_i (fun c60699 => ?_) (fun c60699 => ?_)
    · exact t_k_Pa_isWrong_23 q hq
    · exact t_k_Pa_isWrong_24 (1 : Int32) q (z_w (show y_in (1 : Int32) (1) (1) from ⟨by decide, by decide⟩) (by decide) (by decide)) hq

set_option maxHeartbeats 4000000 in
set_option maxRecDepth 100000 in
theorem t_k_Pa_isForbidden_53 (t0 : Int32) (q : z_Sg) (ht0 : y_in t0 (0) (1)) (hq : iK q) : z_ok (k_Pa_isForbidden_53 t0 q) (fun o : Int32 => y_in o (0) (1)) := by
  unfold k_Pa_isForbidden_53
  refine z_ok_G (z_bi ht0) ?_
  exact z_ok_s ht0

set_option maxHeartbeats 4000000 in
set_option maxRecDepth 100000 in
theorem t_k_Pa_isForbidden_52 (q : z_Sg) (hq : iK q) : z_ok (k_Pa_isForbidden_52 q) (fun o : Int32 => y_in o (0) (1)) := by
  unfold k_Pa_isForbidden_52
  exact t_k_Pa_isForbidden_53 (0 : Int32) q (z_w (show y_in (0 : Int32) (0) (0) from ⟨by decide, by decide⟩) (by decide) (by decide)) hq

set_option maxHeartbeats 4000000 in
set_option maxRecDepth 100000 in
theorem t_k_Pa_isForbidden_48 (q : z_Sg) (hq : iK q) : z_ok (k_Pa_isForbidden_48 q) (fun o : Int32 => y_in o (0) (1)) := by
  unfold k_Pa_isForbidden_48
  exact t_k_Pa_isForbidden_53 (1 : Int32) q (z_w (show y_in (1 : Int32) (1) (1) from ⟨by decide, by decide⟩) (by decide) (by decide)) hq

set_option maxHeartbeats 4000000 in
set_option maxRecDepth 100000 in
theorem t_k_Pa_isForbidden_36 (x3 : Int64) (x5 : Int32) (q : z_Sg) (hq : iK q) : z_ok (k_Pa_isForbidden_36 x3 x5 q) (fun o : Int32 => y_in o (0) (1)) := by
  unfold k_Pa_isForbidden_36
  refine z_ok_i (fun c60700 => ?_) (fun c60700 => ?_)
  · have z60701 : y_in x5 (2) (2) := z_w (z_eq1 c60700 (show y_in (2 : Int32) (2) (2) from ⟨by decide, by decide⟩)) (by decide) (by decide)
    refine z_ok_i (fun c60702 => ?_) (fun c60702 => ?_)
    · exact t_k_Pa_isForbidden_52 q hq
    · exact t_k_Pa_isForbidden_48 q hq
  · exact t_k_Pa_isForbidden_52 q hq

set_option maxHeartbeats 4000000 in
set_option maxRecDepth 100000 in
theorem t_k_Pa_isForbidden_16 (x1 : Int64) (x3 : Int64) (x5 : Int32) (q : z_Sg) (hq : iK q) : z_ok (k_Pa_isForbidden_16 x1 x3 x5 q) (fun o : Int32 => y_in o (0) (1)) := by
  unfold k_Pa_isForbidden_16
  refine z_ok_i (fun c60703 => ?_) (fun c60703 => ?_)
  · have z60704 : y_in (z_gI q 2) (0) (0) := z_w (z_eq1 c60703 (show y_in (0 : Int32) (0) (0) from ⟨by decide, by decide⟩)) (by decide) (by decide)
    exact t_k_Pa_isForbidden_36 x3 x5 q hq
  · have z60705 : y_in (z_gI q 2) (1) (1) := z_w (z_ne1 c60703 (iK_f2 hq) (by decide)) (by decide) (by decide)
    refine z_ok_i (fun c60706 => ?_) (fun c60706 => ?_)
    · exact t_k_Pa_isForbidden_48 q hq
    · exact t_k_Pa_isForbidden_36 x3 x5 q hq

set_option maxHeartbeats 4000000 in
set_option maxRecDepth 100000 in
theorem t_f_Pa_isForbidden (x1 : Int64) (x3 : Int64) (x5 : Int32) (q : z_Sg) (hq : iK q) : z_ok (f_Pa_isForbidden x1 x3 x5 q) (fun o : Int32 => y_in o (0) (1)) := by
  unfold f_Pa_isForbidden
  refine z_ok_i (fun c60707 => ?_) (fun c60707 => ?_)
  · have z60708 : y_in x5 (1) (1) := z_w (z_eq1 c60707 (show y_in (1 : Int32) (1) (1) from ⟨by decide, by decide⟩)) (by decide) (by decide)
    refine z_ok_i (fun c60709 => ?_) (fun c60709 => ?_)
    · exact t_k_Pa_isForbidden_48 q hq
    · exact t_k_Pa_isForbidden_16 x1 x3 x5 q hq
  · exact t_k_Pa_isForbidden_16 x1 x3 x5 q hq

set_option maxHeartbeats 4000000 in
set_option maxRecDepth 100000 in
theorem t_k_Pa_refused_50 (t0 : Int64) (t1 : Int64) (q : z_Sg) (ht1 : y_il t1 (0) (4)) (hq : iK q) : z_ok (k_Pa_refused_50 t0 t1 q) (fun _ : Int64 => True) := by
  unfold k_Pa_refused_50
  exact z_ok_s trivial

set_option maxHeartbeats 4000000 in
set_option maxRecDepth 100000 in
theorem t_k_Pa_refused_23 (x1 : Int64) (t0 : Int64) (q : z_Sg) (hx1 : y_il x1 (0) (9)) (ht0 : y_il t0 (0) (16)) (hq : iK q) : z_ok (k_Pa_refused_23 x1 t0 q) (fun _ : Int64 => True) := by
  unfold k_Pa_refused_23
  refine z_ok_i (fun c60710 => ?_) (fun c60710 => ?_)
  · have z60711 : y_in (z_gI q 2) (0) (0) := z_w (z_eq1 c60710 (show y_in (0 : Int32) (0) (0) from ⟨by decide, by decide⟩)) (by decide) (by decide)
    exact t_k_Pa_refused_50 (((-2 : Int64) - x1) - t0) (0 : Int64) q (z_lw (show y_il (0 : Int64) (0) (0) from ⟨by decide, by decide⟩) (by decide) (by decide)) hq
  · have z60712 : y_in (z_gI q 2) (1) (1) := z_w (z_ne1 c60710 (iK_f2 hq) (by decide)) (by decide) (by decide)
    exact t_k_Pa_refused_50 (((-2 : Int64) - x1) - t0) (4 : Int64) q (z_lw (show y_il (4 : Int64) (4) (4) from ⟨by decide, by decide⟩) (by decide) (by decide)) hq

set_option maxHeartbeats 4000000 in
set_option maxRecDepth 100000 in
theorem t_f_Pa_refused (x1 : Int64) (x3 : Int32) (q : z_Sg) (hx1 : y_il x1 (0) (9)) (hq : iK q) : z_ok (f_Pa_refused x1 x3 q) (fun _ : Int64 => True) := by
  unfold f_Pa_refused
  refine z_ok_i (fun c60713 => ?_) (fun c60713 => ?_)
  · have z60714 : y_in x3 (1) (1) := z_w (z_eq1 c60713 (show y_in (1 : Int32) (1) (1) from ⟨by decide, by decide⟩)) (by decide) (by decide)
    exact t_k_Pa_refused_23 x1 (2 : Int64) q hx1 (z_lw (show y_il (2 : Int64) (2) (2) from ⟨by decide, by decide⟩) (by decide) (by decide)) hq
  · refine z_ok_i (fun c60715 => ?_) (fun c60715 => ?_)
    · have z60716 : y_in x3 (2) (2) := z_w (z_eq1 c60715 (show y_in (2 : Int32) (2) (2) from ⟨by decide, by decide⟩)) (by decide) (by decide)
      exact t_k_Pa_refused_23 x1 (16 : Int64) q hx1 (z_lw (show y_il (16 : Int64) (16) (16) from ⟨by decide, by decide⟩) (by decide) (by decide)) hq
    · exact t_k_Pa_refused_23 x1 (0 : Int64) q hx1 (z_lw (show y_il (0 : Int64) (0) (0) from ⟨by decide, by decide⟩) (by decide) (by decide)) hq

set_option maxHeartbeats 4000000 in
set_option maxRecDepth 100000 in
theorem t_k_Pa_locate_193 (x1 : Int64) (x3 : Int32) (x4 : Int64) (x6 : Int64) (x8 : Int64) (x10 : Int64) (q : z_Sg) (hx4 : y_il x4 (0) (4503599627366400)) (hx10 : y_il x10 (4095) (2097151)) (hq : iK q) : z_ok (k_Pa_locate_193 x1 x3 x4 x6 x8 x10 q) (fun _ : Int64 => True) := by
  unfold k_Pa_locate_193
  refine z_ok_b (t_f_Pa_isForbidden x6 x8 x3 q hq) (fun r5 hr5 => ?_)
  refine z_ok_i (fun c60717 => ?_) (fun c60717 => ?_)
  · have z60718 : y_in r5 (0) (0) := z_w (z_eq1 c60717 (show y_in (0 : Int32) (0) (0) from ⟨by decide, by decide⟩)) (by decide) (by decide)
    exact z_ok_s trivial
  · have z60719 : y_in r5 (1) (1) := z_w (z_ne1 c60717 hr5 (by decide)) (by decide) (by decide)
    refine z_ok_b (t_f_Pa_refused (1 : Int64) x3 q (z_lw (show y_il (1 : Int64) (1) (1) from ⟨by decide, by decide⟩) (by decide) (by decide)) hq) (fun r7 hr7 => ?_)
    exact z_ok_s trivial

set_option maxHeartbeats 4000000 in
set_option maxRecDepth 100000 in
theorem t_k_Pa_locate_187 (ih41 : Int64 × Int32 × Int64 × Int64 × Int64 × Int64 × Int32 → Option Int64) (x1 : Int64) (x3 : Int32) (x4 : Int64) (x6 : Int64) (x8 : Int64) (x10 : Int64) (x12 : Int32) (q : z_Sg) (hi41 : ∀ (x1' : Int64) (x3' : Int32) (x4' : Int64) (x6' : Int64) (x8' : Int64) (x10' : Int64) (x12' : Int32), y_il x4' (0) (4503599627366400) → y_il x10' (4095) (4095) → y_in x12' (-11) (39) → (x12'.toInt - (-11)).toNat < (x12.toInt - (-11)).toNat → z_ok (ih41 (x1', x3', x4', x6', x8', x10', x12')) (fun _ : Int64 => True)) (hx4 : y_il x4 (0) (4503599627366400)) (hx10 : y_il x10 (4095) (4095)) (hx12 : y_in x12 (0) (39)) (hq : iK q) : z_ok (k_Pa_locate_187 ih41 x1 x3 x4 x6 x8 x10 x12 q) (fun _ : Int64 => True) := by
  unfold k_Pa_locate_187
  refine z_ok_n (fun n15 en15 => ?_)
  have hn15 : y_in n15 (-9) (30) := z_e en15 (z_w (a' := -9) (b' := 30) (z_add hx12 (show y_in (-9 : Int32) (-9) (-9) from ⟨by decide, by decide⟩) (by decide) (by decide)) (by decide) (by decide))
  exact hi41 x1 x3 x4 x6 x8 x10 n15 hx4 hx10 (z_w hn15 (by decide) (by decide)) (z_md (-11) 9 hx12 en15 (by decide) (by decide) (by decide) (by decide))

set_option maxHeartbeats 4000000 in
set_option maxRecDepth 100000 in
theorem t_k_Pa_locate_162 (x3 : Int32) (q : z_Sg) (hq : iK q) : z_ok (k_Pa_locate_162 x3 q) (fun _ : Int64 => True) := by
  unfold k_Pa_locate_162
  refine z_ok_b (t_f_Pa_refused (9 : Int64) x3 q (z_lw (show y_il (9 : Int64) (9) (9) from ⟨by decide, by decide⟩) (by decide) (by decide)) hq) (fun r18 hr18 => ?_)
  exact z_ok_s trivial

set_option maxHeartbeats 4000000 in
set_option maxRecDepth 100000 in
theorem t_k_Pa_locate_86 (ih41 : Int64 × Int32 × Int64 × Int64 × Int64 × Int64 × Int32 → Option Int64) (x1 : Int64) (x3 : Int32) (x6 : Int64) (x8 : Int64) (x10 : Int64) (x12 : Int32) (t0 : Int64) (q : z_Sg) (hi41 : ∀ (x1' : Int64) (x3' : Int32) (x4' : Int64) (x6' : Int64) (x8' : Int64) (x10' : Int64) (x12' : Int32), y_il x4' (0) (4503599627366400) → y_il x10' (4095) (4095) → y_in x12' (-11) (39) → (x12'.toInt - (-11)).toNat < (x12.toInt - (-11)).toNat → z_ok (ih41 (x1', x3', x4', x6', x8', x10', x12')) (fun _ : Int64 => True)) (hx10 : y_il x10 (4095) (4095)) (hx12 : y_in x12 (0) (39)) (hq : iK q) : z_ok (k_Pa_locate_86 ih41 x1 x3 x6 x8 x10 x12 t0 q) (fun _ : Int64 => True) := by
  unfold k_Pa_locate_86
  refine z_ok_n (fun n10 en10 => ?_)
  refine z_ok_n (fun n11 en11 => ?_)
  refine z_ok_i (fun c60720 => ?_) (fun c60720 => ?_)
  · refine z_ok_b (t_f_Pa_refused (0 : Int64) x3 q (z_lw (show y_il (0 : Int64) (0) (0) from ⟨by decide, by decide⟩) (by decide) (by decide)) hq) (fun r21 hr21 => ?_)
    exact z_ok_s trivial
  · refine z_ok_n (fun n13 en13 => ?_)
    have hn13 : y_il n13 (0) (4503599627366400) := z_le_ en13 (z_landl (n := 4503599627366400) rfl (by decide))
    refine z_ok_i (fun c60721 => ?_) (fun c60721 => ?_)
    · have z60722 : y_in x12 (0) (12) := z_w (z_le1 c60721 hx12 (show y_in (12 : Int32) (12) (12) from ⟨by decide, by decide⟩)) (by decide) (by decide)
      exact t_k_Pa_locate_187 ih41 x1 x3 n13 n10 n11 x10 x12 q hi41 hn13 hx10 (z_w z60722 (by decide) (by decide)) hq
    · have z60723 : y_in x12 (13) (39) := z_w (z_nle1 c60721 hx12 (show y_in (12 : Int32) (12) (12) from ⟨by decide, by decide⟩)) (by decide) (by decide)
      refine z_ok_i (fun c60724 => ?_) (fun c60724 => ?_)
      · exact t_k_Pa_locate_187 ih41 x1 x3 n13 n10 n11 x10 x12 q hi41 hn13 hx10 (z_w z60723 (by decide) (by decide)) hq
      · refine z_ok_i (fun c60725 => ?_) (fun c60725 => ?_)
        · have z60726 : y_in x12 (22) (39) := z_w (z_lt2 c60725 (show y_in (21 : Int32) (21) (21) from ⟨by decide, by decide⟩) z60723) (by decide) (by decide)
          exact t_k_Pa_locate_162 x3 q hq
        · have z60727 : y_in x12 (13) (21) := z_w (z_nlt2 c60725 (show y_in (21 : Int32) (21) (21) from ⟨by decide, by decide⟩) z60723) (by decide) (by decide)
          refine z_ok_i (fun c60728 => ?_) (fun c60728 => ?_)
          · refine z_ok_n (fun n20 en20 => ?_)
            have hn20 : y_il n20 (0) (4503599625273344) := z_le_ en20 (z_landl (n := 4503599625273344) rfl (by decide))
            exact t_k_Pa_locate_193 x1 x3 n20 n10 n11 (2097151 : Int64) q (z_lw hn20 (by decide) (by decide)) (z_lw (show y_il (2097151 : Int64) (2097151) (2097151) from ⟨by decide, by decide⟩) (by decide) (by decide)) hq
          · exact t_k_Pa_locate_162 x3 q hq

set_option maxHeartbeats 4000000 in
set_option maxRecDepth 100000 in
theorem t_kb_Pa_locate_41 (ih41 : Int64 × Int32 × Int64 × Int64 × Int64 × Int64 × Int32 → Option Int64) (x1 : Int64) (x3 : Int32) (x4 : Int64) (x6 : Int64) (x8 : Int64) (x10 : Int64) (x12 : Int32) (q : z_Sg) (hi41 : ∀ (x1' : Int64) (x3' : Int32) (x4' : Int64) (x6' : Int64) (x8' : Int64) (x10' : Int64) (x12' : Int32), y_il x4' (0) (4503599627366400) → y_il x10' (4095) (4095) → y_in x12' (-11) (39) → (x12'.toInt - (-11)).toNat < (x12.toInt - (-11)).toNat → z_ok (ih41 (x1', x3', x4', x6', x8', x10', x12')) (fun _ : Int64 => True)) (hx4 : y_il x4 (0) (4503599627366400)) (hx10 : y_il x10 (4095) (4095)) (hx12 : y_in x12 (-11) (39)) (hq : iK q) : z_ok (kb_Pa_locate_41 ih41 x1 x3 x4 x6 x8 x10 x12 q) (fun _ : Int64 => True) := by
  unfold kb_Pa_locate_41
  refine z_ok_i (fun c60729 => ?_) (fun c60729 => ?_)
  · have z60730 : y_in x12 (-11) (11) := z_w (z_lt1 c60729 hx12 (show y_in (12 : Int32) (12) (12) from ⟨by decide, by decide⟩)) (by decide) (by decide)
    exact t_k_Pa_locate_193 x1 x3 x4 x6 x8 x10 q hx4 (z_lw hx10 (by decide) (by decide)) hq
  · have z60731 : y_in x12 (12) (39) := z_w (z_nlt1 c60729 hx12 (show y_in (12 : Int32) (12) (12) from ⟨by decide, by decide⟩)) (by decide) (by decide)
    refine z_ok_n (fun n8 en8 => ?_)
    refine z_ok_i (fun c60732 => ?_) (fun c60732 => ?_)
    · exact t_k_Pa_locate_86 ih41 x1 x3 x6 x8 x10 x12 (0 : Int64) q hi41 hx10 (z_w z60731 (by decide) (by decide)) hq
    · refine z_ok_g (z_ixl hx4 en8 c60732) ?_
      exact t_k_Pa_locate_86 ih41 x1 x3 x6 x8 x10 x12 (z_gM q 1 (z_lushr n8 (3 : Int32)).toInt32.toNatClampNeg) q hi41 hx10 (z_w z60731 (by decide) (by decide)) hq

set_option maxHeartbeats 4000000 in
set_option maxRecDepth 100000 in
theorem t_k_Pa_locate_41 (x1 : Int64) (x3 : Int32) (x4 : Int64) (x6 : Int64) (x8 : Int64) (x10 : Int64) (x12 : Int32) (q : z_Sg) (hx4 : y_il x4 (0) (4503599627366400)) (hx6 : y_il x6 (-1) (-1)) (hx8 : y_il x8 (0) (0)) (hx10 : y_il x10 (4095) (4095)) (hx12 : y_in x12 (39) (39)) (hq : iK q) : z_ok (k_Pa_locate_41 x1 x3 x4 x6 x8 x10 x12 q) (fun _ : Int64 => True) := by
  unfold k_Pa_locate_41
  refine z_ok_l (fun a : Int64 × Int32 × Int64 × Int64 × Int64 × Int64 × Int32 => y_il a.2.2.1 (0) (4503599627366400) ∧ y_il a.2.2.2.2.2.1 (4095) (4095) ∧ y_in a.2.2.2.2.2.2 (-11) (39)) (fun a => (a.2.2.2.2.2.2.toInt - (-11)).toNat) ?_ (x1, x3, x4, x6, x8, x10, x12) ⟨hx4, hx10, (z_w hx12 (by decide) (by decide))⟩ (by show ((x12.toInt - (-11)).toNat) < 2000; have z1 := hx12.1; have z2 := hx12.2; omega)
  intro ih a ha hih
  exact t_kb_Pa_locate_41 ih a.1 a.2.1 a.2.2.1 a.2.2.2.1 a.2.2.2.2.1 a.2.2.2.2.2.1 a.2.2.2.2.2.2 q (fun x1' x3' x4' x6' x8' x10' x12' hx4' hx10' hx12' hm => hih (x1', x3', x4', x6', x8', x10', x12') ⟨hx4', hx10', hx12'⟩ hm) ha.1 ha.2.1 ha.2.2 hq

set_option maxHeartbeats 4000000 in
set_option maxRecDepth 100000 in
theorem t_f_Pa_locate (x1 : Int64) (x3 : Int32) (q : z_Sg) (hq : iK q) : z_ok (f_Pa_locate x1 x3 q) (fun _ : Int64 => True) := by
  unfold f_Pa_locate
  refine z_ok_b (t_f_Pa_isWrong x1 q hq) (fun r1 hr1 => ?_)
  refine z_ok_i (fun c60733 => ?_) (fun c60733 => ?_)
  · have z60734 : y_in r1 (0) (0) := z_w (z_eq1 c60733 (show y_in (0 : Int32) (0) (0) from ⟨by decide, by decide⟩)) (by decide) (by decide)
    refine z_ok_n (fun n3 en3 => ?_)
    have hn3 : y_il n3 (0) (4503599627366400) := z_le_ en3 (z_landl (n := 4503599627366400) rfl (by decide))
    exact t_k_Pa_locate_41 x1 x3 n3 (-1 : Int64) (0 : Int64) (4095 : Int64) (39 : Int32) q hn3 (show y_il (-1 : Int64) (-1) (-1) from ⟨by decide, by decide⟩) (show y_il (0 : Int64) (0) (0) from ⟨by decide, by decide⟩) (show y_il (4095 : Int64) (4095) (4095) from ⟨by decide, by decide⟩) (show y_in (39 : Int32) (39) (39) from ⟨by decide, by decide⟩) hq
  · have z60735 : y_in r1 (1) (1) := z_w (z_ne1 c60733 hr1 (by decide)) (by decide) (by decide)
    exact z_ok_s trivial

set_option maxHeartbeats 4000000 in
set_option maxRecDepth 100000 in
theorem t_f_Pa_refusal (x1 : Int64) (x3 : Int64) (x5 : Int32) (q : z_Sg) (hx5 : y_in x5 (12) (13)) (hq : iK q) : z_ok (f_Pa_refusal x1 x3 x5 q) (fun o : Int32 × z_Sg => iK o.2 ∧ y_in o.1 (12) (14)) := by
  unfold f_Pa_refusal
  refine z_ok_i (fun c60736 => ?_) (fun c60736 => ?_)
  · exact z_ok_s ⟨hq, (z_w hx5 (by decide) (by decide))⟩
  · refine z_ok_n (fun q2 eq2 => ?_)
    have hq2 : iK q2 := by rw [eq2]; exact (iK_sL hq)
    refine z_ok_n (fun q3 eq3 => ?_)
    have hq3 : iK q3 := by rw [eq3]; exact (iK_sI1 hq2)
    exact z_ok_s ⟨hq3, (z_w (show y_in (14 : Int32) (14) (14) from ⟨by decide, by decide⟩) (by decide) (by decide))⟩

set_option maxHeartbeats 4000000 in
set_option maxRecDepth 100000 in
theorem t_k_De_fetch_93 (q : z_Sg) (hq : iK q) : z_ok (k_De_fetch_93 q) (fun o : Int32 × z_Sg => iK o.2 ∧ y_in o.1 (-1) (14)) := by
  unfold k_De_fetch_93
  refine z_ok_b (t_f_Pa_byteAt (z_gL q 6) q hq) (fun r7 hr7 => ?_)
  refine z_ok_n (fun q8 eq8 => ?_)
  have hq8 : iK q8 := by rw [eq8]; exact (iK_sI4 hq hr7)
  refine z_ok_n (fun q9 eq9 => ?_)
  have hq9 : iK q9 := by rw [eq9]; exact (iK_sI3 hq8)
  exact z_ok_s ⟨hq9, (z_w (show y_in (-1 : Int32) (-1) (-1) from ⟨by decide, by decide⟩) (by decide) (by decide))⟩

set_option maxHeartbeats 4000000 in
set_option maxRecDepth 100000 in
theorem t_k_De_fetch_56 (x1 : Int64) (q : z_Sg) (hq : iK q) : z_ok (k_De_fetch_56 x1 q) (fun o : Int32 × z_Sg => iK o.2 ∧ y_in o.1 (-1) (14)) := by
  unfold k_De_fetch_56
  refine z_ok_b (t_f_Pa_locate x1 (2 : Int32) q hq) (fun r4 hr4 => ?_)
  refine z_ok_n (fun q5 eq5 => ?_)
  have hq5 : iK q5 := by rw [eq5]; exact (iK_sL hq)
  refine z_ok_i (fun c60737 => ?_) (fun c60737 => ?_)
  · exact t_k_De_fetch_93 q5 hq5
  · refine z_ok_b (t_f_Pa_refusal x1 (z_gL q5 6) (13 : Int32) q5 (z_w (show y_in (13 : Int32) (13) (13) from ⟨by decide, by decide⟩) (by decide) (by decide)) hq5) (fun r10 hr10 => ?_)
    exact z_ok_s ⟨hr10.1, (z_w hr10.2 (by decide) (by decide))⟩

set_option maxHeartbeats 4000000 in
set_option maxRecDepth 100000 in
theorem t_f_De_fetch (q : z_Sg) (hq : iK q) : z_ok (f_De_fetch q) (fun o : Int32 × z_Sg => iK o.2 ∧ y_in o.1 (-1) (14)) := by
  unfold f_De_fetch
  refine z_ok_i (fun c60738 => ?_) (fun c60738 => ?_)
  · have z60739 : y_in (z_gI q 3) (-2147483648) (14) := z_w (z_lt1 c60738 (z_full _) (show y_in (15 : Int32) (15) (15) from ⟨by decide, by decide⟩)) (by decide) (by decide)
    refine z_ok_n (fun n2 en2 => ?_)
    refine z_ok_i (fun c60740 => ?_) (fun c60740 => ?_)
    · have z60741 : y_in (z_gI q 3) (-2147483648) (0) := z_w (z_le1 c60740 z60739 (show y_in (0 : Int32) (0) (0) from ⟨by decide, by decide⟩)) (by decide) (by decide)
      exact t_k_De_fetch_56 n2 q hq
    · have z60742 : y_in (z_gI q 3) (1) (14) := z_w (z_nle1 c60740 z60739 (show y_in (0 : Int32) (0) (0) from ⟨by decide, by decide⟩)) (by decide) (by decide)
      refine z_ok_i (fun c60743 => ?_) (fun c60743 => ?_)
      · exact t_k_De_fetch_56 n2 q hq
      · refine z_ok_n (fun q12 eq12 => ?_)
        have hq12 : iK q12 := by rw [eq12]; exact (iK_sL hq)
        exact t_k_De_fetch_93 q12 hq12
  · have z60744 : y_in (z_gI q 3) (15) (2147483647) := z_w (z_nlt1 c60738 (z_full _) (show y_in (15 : Int32) (15) (15) from ⟨by decide, by decide⟩)) (by decide) (by decide)
    exact z_ok_s ⟨hq, (z_w (show y_in (13 : Int32) (13) (13) from ⟨by decide, by decide⟩) (by decide) (by decide))⟩

set_option maxHeartbeats 4000000 in
set_option maxRecDepth 100000 in
theorem t_k_De_isPrefix_35 (t0 : Int32) (q : z_Sg) (ht0 : y_in t0 (0) (1)) (hq : iK q) : z_ok (k_De_isPrefix_35 t0 q) (fun o : Int32 => y_in o (0) (1)) := by
  unfold k_De_isPrefix_35
  refine z_ok_G (z_bi ht0) ?_
  exact z_ok_s ht0

set_option maxHeartbeats 4000000 in
set_option maxRecDepth 100000 in
theorem t_k_De_isPrefix_30 (q : z_Sg) (hq : iK q) : z_ok (k_De_isPrefix_30 q) (fun o : Int32 => y_in o (0) (1)) := by
  unfold k_De_isPrefix_30
  exact t_k_De_isPrefix_35 (1 : Int32) q (z_w (show y_in (1 : Int32) (1) (1) from ⟨by decide, by decide⟩) (by decide) (by decide)) hq

set_option maxHeartbeats 4000000 in
set_option maxRecDepth 100000 in
theorem t_f_De_isPrefix (x0 : Int32) (q : z_Sg) (hx0 : y_in x0 (0) (255)) (hq : iK q) : z_ok (f_De_isPrefix x0 q) (fun o : Int32 => y_in o (0) (1)) := by
  unfold f_De_isPrefix
  refine z_ok_i (fun c60745 => ?_) (fun c60745 => ?_)
  · have z60746 : y_in (x0 &&& (240 : Int32)) (64) (64) := z_w (z_eq1 c60745 (show y_in (64 : Int32) (64) (64) from ⟨by decide, by decide⟩)) (by decide) (by decide)
    exact t_k_De_isPrefix_30 q hq
  · refine z_ok_i (fun c60747 => ?_) (fun c60747 => ?_)
    · have z60748 : y_in x0 (102) (102) := z_w (z_eq1 c60747 (show y_in (102 : Int32) (102) (102) from ⟨by decide, by decide⟩)) (by decide) (by decide)
      exact t_k_De_isPrefix_30 q hq
    · refine z_ok_i (fun c60749 => ?_) (fun c60749 => ?_)
      · have z60750 : y_in x0 (242) (242) := z_w (z_eq1 c60749 (show y_in (242 : Int32) (242) (242) from ⟨by decide, by decide⟩)) (by decide) (by decide)
        exact t_k_De_isPrefix_30 q hq
      · refine z_ok_i (fun c60751 => ?_) (fun c60751 => ?_)
        · have z60752 : y_in x0 (243) (243) := z_w (z_eq1 c60751 (show y_in (243 : Int32) (243) (243) from ⟨by decide, by decide⟩)) (by decide) (by decide)
          exact t_k_De_isPrefix_30 q hq
        · exact t_k_De_isPrefix_35 (0 : Int32) q (z_w (show y_in (0 : Int32) (0) (0) from ⟨by decide, by decide⟩) (by decide) (by decide)) hq

set_option maxHeartbeats 4000000 in
set_option maxRecDepth 100000 in
theorem t_k_De_takePrefix_45 (q : z_Sg) (hq : iK q) : z_ok (k_De_takePrefix_45 q) (fun o : z_Sg => iK o) := by
  unfold k_De_takePrefix_45
  exact z_ok_s hq

set_option maxHeartbeats 4000000 in
set_option maxRecDepth 100000 in
theorem t_k_De_takePrefix_16 (x1 : Int32) (t1 : Int32) (q : z_Sg) (hx1 : y_in x1 (0) (255)) (ht1 : y_in t1 (0) (255)) (hq : iK q) : z_ok (k_De_takePrefix_16 x1 t1 q) (fun o : z_Sg => iK o) := by
  unfold k_De_takePrefix_16
  refine z_ok_n (fun q2 eq2 => ?_)
  have hq2 : iK q2 := by rw [eq2]; exact (iK_sI6 hq ht1)
  refine z_ok_i (fun c60753 => ?_) (fun c60753 => ?_)
  · have z60754 : y_in x1 (102) (102) := z_w (z_eq1 c60753 (show y_in (102 : Int32) (102) (102) from ⟨by decide, by decide⟩)) (by decide) (by decide)
    refine z_ok_n (fun q6 eq6 => ?_)
    have hq6 : iK q6 := by rw [eq6]; exact (iK_sI5 hq2 (z_w (show y_in (1 : Int32) (1) (1) from ⟨by decide, by decide⟩) (by decide) (by decide)))
    exact t_k_De_takePrefix_45 q6 hq6
  · refine z_ok_i (fun c60755 => ?_) (fun c60755 => ?_)
    · have z60756 : y_in (z_gI q2 6) (0) (0) := z_w (z_eq1 c60755 (show y_in (0 : Int32) (0) (0) from ⟨by decide, by decide⟩)) (by decide) (by decide)
      refine z_ok_n (fun q5 eq5 => ?_)
      have hq5 : iK q5 := by rw [eq5]; exact (iK_sI10 hq2 hx1)
      exact t_k_De_takePrefix_45 q5 hq5
    · have z60757 : y_in (z_gI q2 6) (1) (255) := z_w (z_ne1 c60755 (iK_f6 hq2) (by decide)) (by decide) (by decide)
      exact t_k_De_takePrefix_45 q2 hq2

set_option maxHeartbeats 4000000 in
set_option maxRecDepth 100000 in
theorem t_f_De_takePrefix (x1 : Int32) (q : z_Sg) (hx1 : y_in x1 (0) (255)) (hq : iK q) : z_ok (f_De_takePrefix x1 q) (fun o : z_Sg => iK o) := by
  unfold f_De_takePrefix
  refine z_ok_i (fun c60758 => ?_) (fun c60758 => ?_)
  · have z60759 : y_in (x1 &&& (240 : Int32)) (64) (64) := z_w (z_eq1 c60758 (show y_in (64 : Int32) (64) (64) from ⟨by decide, by decide⟩)) (by decide) (by decide)
    exact t_k_De_takePrefix_16 x1 x1 q hx1 hx1 hq
  · exact t_k_De_takePrefix_16 x1 (0 : Int32) q hx1 (z_w (show y_in (0 : Int32) (0) (0) from ⟨by decide, by decide⟩) (by decide) (by decide)) hq

set_option maxHeartbeats 4000000 in
set_option maxRecDepth 100000 in
theorem t_k_De_fetchOpcode_67 (q : z_Sg) (hq : iK q) : z_ok (k_De_fetchOpcode_67 q) (fun o : Int32 × z_Sg => iK o.2 ∧ y_in o.1 (-1) (14)) := by
  unfold k_De_fetchOpcode_67
  refine z_ok_n (fun q6 eq6 => ?_)
  have hq6 : iK q6 := by rw [eq6]; exact (iK_sI11 hq (z_w (iK_f4 hq) (by decide) (by decide)))
  refine z_ok_i (fun c60760 => ?_) (fun c60760 => ?_)
  · have z60761 : y_in (z_gI q6 11) (15) (15) := z_w (z_eq1 c60760 (show y_in (15 : Int32) (15) (15) from ⟨by decide, by decide⟩)) (by decide) (by decide)
    refine z_ok_b (t_f_De_fetch q6 hq6) (fun r8 hr8 => ?_)
    refine z_ok_n (fun q9 eq9 => ?_)
    have hq9 : iK q9 := by rw [eq9]; exact (iK_sI11 hr8.1 (z_w (z_w (a' := 256) (b' := 511) (z_add (show y_in (256 : Int32) (256) (256) from ⟨by decide, by decide⟩) (iK_f4 hr8.1) (by decide) (by decide)) (by decide) (by decide)) (by decide) (by decide)))
    exact z_ok_s ⟨hq9, hr8.2⟩
  · exact z_ok_s ⟨hq6, (z_w (show y_in (-1 : Int32) (-1) (-1) from ⟨by decide, by decide⟩) (by decide) (by decide))⟩

set_option maxHeartbeats 4000000 in
set_option maxRecDepth 100000 in
theorem t_kb_De_fetchOpcode_22 (ih22 : Int32 × z_Sg → Option (Int32 × z_Sg)) (x1 : Int32) (q : z_Sg) (hi22 : ∀ (x1' : Int32) (q' : z_Sg), y_in x1' (0) (16) → iK q' → (16 - x1'.toInt).toNat < (16 - x1.toInt).toNat → z_ok (ih22 (x1', q')) (fun o : Int32 × z_Sg => iK o.2 ∧ y_in o.1 (-1) (14))) (hx1 : y_in x1 (0) (16)) (hq : iK q) : z_ok (kb_De_fetchOpcode_22 ih22 x1 q) (fun o : Int32 × z_Sg => iK o.2 ∧ y_in o.1 (-1) (14)) := by
  unfold kb_De_fetchOpcode_22
  refine z_ok_i (fun c60762 => ?_) (fun c60762 => ?_)
  · have z60763 : y_in x1 (16) (16) := z_w (z_lt2 c60762 (show y_in (15 : Int32) (15) (15) from ⟨by decide, by decide⟩) hx1) (by decide) (by decide)
    exact t_k_De_fetchOpcode_67 q hq
  · have z60764 : y_in x1 (0) (15) := z_w (z_nlt2 c60762 (show y_in (15 : Int32) (15) (15) from ⟨by decide, by decide⟩) hx1) (by decide) (by decide)
    refine z_ok_b (t_f_De_fetch q hq) (fun r10 hr10 => ?_)
    refine z_ok_i (fun c60765 => ?_) (fun c60765 => ?_)
    · have z60766 : y_in r10.1 (-1) (-1) := z_w (z_eq1 c60765 (show y_in (-1 : Int32) (-1) (-1) from ⟨by decide, by decide⟩)) (by decide) (by decide)
      refine z_ok_b (t_f_De_isPrefix (z_gI r10.2 4) r10.2 (iK_f4 hr10.1) hr10.1) (fun r12 hr12 => ?_)
      refine z_ok_i (fun c60767 => ?_) (fun c60767 => ?_)
      · have z60768 : y_in r12 (0) (0) := z_w (z_eq1 c60767 (show y_in (0 : Int32) (0) (0) from ⟨by decide, by decide⟩)) (by decide) (by decide)
        exact t_k_De_fetchOpcode_67 r10.2 hr10.1
      · have z60769 : y_in r12 (1) (1) := z_w (z_ne1 c60767 hr12 (by decide)) (by decide) (by decide)
        refine z_ok_b (t_f_De_takePrefix (z_gI r10.2 4) r10.2 (iK_f4 hr10.1) hr10.1) (fun r14 hr14 => ?_)
        refine z_ok_n (fun n15 en15 => ?_)
        have hn15 : y_in n15 (1) (16) := z_e en15 (z_w (a' := 1) (b' := 16) (z_add z60764 (show y_in (1 : Int32) (1) (1) from ⟨by decide, by decide⟩) (by decide) (by decide)) (by decide) (by decide))
        exact hi22 n15 r14 (z_w hn15 (by decide) (by decide)) hr14 (z_mu (16) 1 z60764 en15 (by decide) (by decide) (by decide) (by decide))
    · have z60770 : y_in r10.1 (0) (14) := z_w (z_ne1 c60765 hr10.2 (by decide)) (by decide) (by decide)
      exact z_ok_s ⟨hr10.1, (z_w z60770 (by decide) (by decide))⟩

set_option maxHeartbeats 4000000 in
set_option maxRecDepth 100000 in
theorem t_k_De_fetchOpcode_22 (x1 : Int32) (q : z_Sg) (hx1 : y_in x1 (0) (0)) (hq : iK q) : z_ok (k_De_fetchOpcode_22 x1 q) (fun o : Int32 × z_Sg => iK o.2 ∧ y_in o.1 (-1) (14)) := by
  unfold k_De_fetchOpcode_22
  refine z_ok_l (fun a : Int32 × z_Sg => y_in a.1 (0) (16) ∧ iK a.2) (fun a => (16 - a.1.toInt).toNat) ?_ (x1, q) ⟨(z_w hx1 (by decide) (by decide)), hq⟩ (by show ((16 - x1.toInt).toNat) < 2000; have z1 := hx1.1; have z2 := hx1.2; omega)
  intro ih a ha hih
  exact t_kb_De_fetchOpcode_22 ih a.1 a.2 (fun x1' q' hx1' hq' hm => hih (x1', q') ⟨hx1', hq'⟩ hm) ha.1 ha.2

set_option maxHeartbeats 4000000 in
set_option maxRecDepth 100000 in
theorem t_f_De_fetchOpcode (q : z_Sg) (hq : iK q) : z_ok (f_De_fetchOpcode q) (fun o : Int32 × z_Sg => iK o.2 ∧ y_in o.1 (-1) (14)) := by
  unfold f_De_fetchOpcode
  refine z_ok_n (fun q1 eq1 => ?_)
  have hq1 : iK q1 := by rw [eq1]; exact (iK_sI3 hq)
  refine z_ok_n (fun q2 eq2 => ?_)
  have hq2 : iK q2 := by rw [eq2]; exact (iK_sI5 hq1 (z_w (show y_in (0 : Int32) (0) (0) from ⟨by decide, by decide⟩) (by decide) (by decide)))
  refine z_ok_n (fun q3 eq3 => ?_)
  have hq3 : iK q3 := by rw [eq3]; exact (iK_sI10 hq2 (z_w (show y_in (0 : Int32) (0) (0) from ⟨by decide, by decide⟩) (by decide) (by decide)))
  refine z_ok_n (fun q4 eq4 => ?_)
  have hq4 : iK q4 := by rw [eq4]; exact (iK_sI6 hq3 (z_w (show y_in (0 : Int32) (0) (0) from ⟨by decide, by decide⟩) (by decide) (by decide)))
  exact t_k_De_fetchOpcode_22 (0 : Int32) q4 (show y_in (0 : Int32) (0) (0) from ⟨by decide, by decide⟩) hq4

set_option maxHeartbeats 4000000 in
set_option maxRecDepth 100000 in
theorem t_k_De_formOfTwo_72 (q : z_Sg) (hq : iK q) : z_ok (k_De_formOfTwo_72 q) (fun o : Int32 => y_in o (0) (39)) := by
  unfold k_De_formOfTwo_72
  exact z_ok_s (z_w (show y_in (2 : Int32) (2) (2) from ⟨by decide, by decide⟩) (by decide) (by decide))

set_option maxHeartbeats 4000000 in
set_option maxRecDepth 100000 in
theorem t_k_De_formOfTwo_74 (q : z_Sg) (hq : iK q) : z_ok (k_De_formOfTwo_74 q) (fun o : Int32 => y_in o (0) (39)) := by
  unfold k_De_formOfTwo_74
  exact z_ok_s (z_w (show y_in (36 : Int32) (36) (36) from ⟨by decide, by decide⟩) (by decide) (by decide))

set_option maxHeartbeats 4000000 in
set_option maxRecDepth 100000 in
theorem t_k_De_formOfTwo_236 (q : z_Sg) (hq : iK q) : z_ok (k_De_formOfTwo_236 q) (fun o : Int32 => y_in o (0) (39)) := by
  unfold k_De_formOfTwo_236
  exact z_ok_s (z_w (show y_in (1 : Int32) (1) (1) from ⟨by decide, by decide⟩) (by decide) (by decide))

set_option maxHeartbeats 4000000 in
set_option maxRecDepth 100000 in
theorem t_k_De_formOfTwo_238 (q : z_Sg) (hq : iK q) : z_ok (k_De_formOfTwo_238 q) (fun o : Int32 => y_in o (0) (39)) := by
  unfold k_De_formOfTwo_238
  exact z_ok_s (z_w (show y_in (2 : Int32) (2) (2) from ⟨by decide, by decide⟩) (by decide) (by decide))

set_option maxHeartbeats 4000000 in
set_option maxRecDepth 100000 in
theorem t_f_De_formOfTwo (x0 : Int32) (q : z_Sg) (hx0 : y_in x0 (0) (255)) (hq : iK q) : z_ok (f_De_formOfTwo x0 q) (fun o : Int32 => y_in o (0) (39)) := by
  unfold f_De_formOfTwo
  refine z_ok_i (fun c60771 => ?_) (fun c60771 => ?_)
  · have z60772 : y_in (x0 &&& (248 : Int32)) (64) (64) := z_w (z_eq1 c60771 (show y_in (64 : Int32) (64) (64) from ⟨by decide, by decide⟩)) (by decide) (by decide)
    exact t_k_De_formOfTwo_72 q hq
  · refine z_ok_i (fun c60773 => ?_) (fun c60773 => ?_)
    · have z60774 : y_in (x0 &&& (248 : Int32)) (72) (72) := z_w (z_eq1 c60773 (show y_in (72 : Int32) (72) (72) from ⟨by decide, by decide⟩)) (by decide) (by decide)
      exact t_k_De_formOfTwo_72 q hq
    · refine z_ok_i (fun c60775 => ?_) (fun c60775 => ?_)
      · have z60776 : y_in (x0 &&& (248 : Int32)) (128) (128) := z_w (z_eq1 c60775 (show y_in (128 : Int32) (128) (128) from ⟨by decide, by decide⟩)) (by decide) (by decide)
        exact t_k_De_formOfTwo_74 q hq
      · refine z_ok_i (fun c60777 => ?_) (fun c60777 => ?_)
        · have z60778 : y_in (x0 &&& (248 : Int32)) (136) (136) := z_w (z_eq1 c60777 (show y_in (136 : Int32) (136) (136) from ⟨by decide, by decide⟩)) (by decide) (by decide)
          exact t_k_De_formOfTwo_74 q hq
        · refine z_ok_i (fun c60779 => ?_) (fun c60779 => ?_)
          · have z60780 : y_in (x0 &&& (248 : Int32)) (144) (144) := z_w (z_eq1 c60779 (show y_in (144 : Int32) (144) (144) from ⟨by decide, by decide⟩)) (by decide) (by decide)
            exact t_k_De_formOfTwo_72 q hq
          · refine z_ok_i (fun c60781 => ?_) (fun c60781 => ?_)
            · have z60782 : y_in (x0 &&& (248 : Int32)) (152) (152) := z_w (z_eq1 c60781 (show y_in (152 : Int32) (152) (152) from ⟨by decide, by decide⟩)) (by decide) (by decide)
              exact t_k_De_formOfTwo_72 q hq
            · refine z_ok_i (fun c60783 => ?_) (fun c60783 => ?_)
              · have z60784 : y_in (x0 &&& (248 : Int32)) (200) (200) := z_w (z_eq1 c60783 (show y_in (200 : Int32) (200) (200) from ⟨by decide, by decide⟩)) (by decide) (by decide)
                exact z_ok_s (z_w (show y_in (1 : Int32) (1) (1) from ⟨by decide, by decide⟩) (by decide) (by decide))
              · refine z_ok_i (fun c60785 => ?_) (fun c60785 => ?_)
                · have z60786 : y_in x0 (5) (5) := z_w (z_eq1 c60785 (show y_in (5 : Int32) (5) (5) from ⟨by decide, by decide⟩)) (by decide) (by decide)
                  exact t_k_De_formOfTwo_236 q hq
                · refine z_ok_i (fun c60787 => ?_) (fun c60787 => ?_)
                  · have z60788 : y_in x0 (7) (7) := z_w (z_eq1 c60787 (show y_in (7 : Int32) (7) (7) from ⟨by decide, by decide⟩)) (by decide) (by decide)
                    exact t_k_De_formOfTwo_236 q hq
                  · refine z_ok_i (fun c60789 => ?_) (fun c60789 => ?_)
                    · have z60790 : y_in x0 (163) (163) := z_w (z_eq1 c60789 (show y_in (163 : Int32) (163) (163) from ⟨by decide, by decide⟩)) (by decide) (by decide)
                      exact t_k_De_formOfTwo_238 q hq
                    · refine z_ok_i (fun c60791 => ?_) (fun c60791 => ?_)
                      · have z60792 : y_in x0 (171) (171) := z_w (z_eq1 c60791 (show y_in (171 : Int32) (171) (171) from ⟨by decide, by decide⟩)) (by decide) (by decide)
                        exact t_k_De_formOfTwo_238 q hq
                      · refine z_ok_i (fun c60793 => ?_) (fun c60793 => ?_)
                        · have z60794 : y_in x0 (175) (175) := z_w (z_eq1 c60793 (show y_in (175 : Int32) (175) (175) from ⟨by decide, by decide⟩)) (by decide) (by decide)
                          exact t_k_De_formOfTwo_238 q hq
                        · refine z_ok_i (fun c60795 => ?_) (fun c60795 => ?_)
                          · have z60796 : y_in x0 (176) (176) := z_w (z_eq1 c60795 (show y_in (176 : Int32) (176) (176) from ⟨by decide, by decide⟩)) (by decide) (by decide)
                            exact t_k_De_formOfTwo_238 q hq
                          · refine z_ok_i (fun c60797 => ?_) (fun c60797 => ?_)
                            · have z60798 : y_in x0 (177) (177) := z_w (z_eq1 c60797 (show y_in (177 : Int32) (177) (177) from ⟨by decide, by decide⟩)) (by decide) (by decide)
                              exact t_k_De_formOfTwo_238 q hq
                            · refine z_ok_i (fun c60799 => ?_) (fun c60799 => ?_)
                              · have z60800 : y_in x0 (179) (179) := z_w (z_eq1 c60799 (show y_in (179 : Int32) (179) (179) from ⟨by decide, by decide⟩)) (by decide) (by decide)
                                exact t_k_De_formOfTwo_238 q hq
                              · refine z_ok_i (fun c60801 => ?_) (fun c60801 => ?_)
                                · have z60802 : y_in x0 (182) (182) := z_w (z_eq1 c60801 (show y_in (182 : Int32) (182) (182) from ⟨by decide, by decide⟩)) (by decide) (by decide)
                                  exact t_k_De_formOfTwo_238 q hq
                                · refine z_ok_i (fun c60803 => ?_) (fun c60803 => ?_)
                                  · have z60804 : y_in x0 (183) (183) := z_w (z_eq1 c60803 (show y_in (183 : Int32) (183) (183) from ⟨by decide, by decide⟩)) (by decide) (by decide)
                                    exact t_k_De_formOfTwo_238 q hq
                                  · refine z_ok_i (fun c60805 => ?_) (fun c60805 => ?_)
                                    · have z60806 : y_in x0 (186) (186) := z_w (z_eq1 c60805 (show y_in (186 : Int32) (186) (186) from ⟨by decide, by decide⟩)) (by decide) (by decide)
                                      exact z_ok_s (z_w (show y_in (10 : Int32) (10) (10) from ⟨by decide, by decide⟩) (by decide) (by decide))
                                    · refine z_ok_i (fun c60807 => ?_) (fun c60807 => ?_)
                                      · have z60808 : y_in x0 (187) (187) := z_w (z_eq1 c60807 (show y_in (187 : Int32) (187) (187) from ⟨by decide, by decide⟩)) (by decide) (by decide)
                                        exact t_k_De_formOfTwo_238 q hq
                                      · refine z_ok_i (fun c60809 => ?_) (fun c60809 => ?_)
                                        · have z60810 : y_in x0 (188) (188) := z_w (z_eq1 c60809 (show y_in (188 : Int32) (188) (188) from ⟨by decide, by decide⟩)) (by decide) (by decide)
                                          exact t_k_De_formOfTwo_238 q hq
                                        · refine z_ok_i (fun c60811 => ?_) (fun c60811 => ?_)
                                          · have z60812 : y_in x0 (189) (189) := z_w (z_eq1 c60811 (show y_in (189 : Int32) (189) (189) from ⟨by decide, by decide⟩)) (by decide) (by decide)
                                            exact t_k_De_formOfTwo_238 q hq
                                          · refine z_ok_i (fun c60813 => ?_) (fun c60813 => ?_)
                                            · have z60814 : y_in x0 (190) (190) := z_w (z_eq1 c60813 (show y_in (190 : Int32) (190) (190) from ⟨by decide, by decide⟩)) (by decide) (by decide)
                                              exact t_k_De_formOfTwo_238 q hq
                                            · refine z_ok_i (fun c60815 => ?_) (fun c60815 => ?_)
                                              · have z60816 : y_in x0 (191) (191) := z_w (z_eq1 c60815 (show y_in (191 : Int32) (191) (191) from ⟨by decide, by decide⟩)) (by decide) (by decide)
                                                exact t_k_De_formOfTwo_238 q hq
                                              · refine z_ok_i (fun c60817 => ?_) (fun c60817 => ?_)
                                                · have z60818 : y_in x0 (192) (192) := z_w (z_eq1 c60817 (show y_in (192 : Int32) (192) (192) from ⟨by decide, by decide⟩)) (by decide) (by decide)
                                                  exact t_k_De_formOfTwo_238 q hq
                                                · refine z_ok_i (fun c60819 => ?_) (fun c60819 => ?_)
                                                  · have z60820 : y_in x0 (193) (193) := z_w (z_eq1 c60819 (show y_in (193 : Int32) (193) (193) from ⟨by decide, by decide⟩)) (by decide) (by decide)
                                                    exact t_k_De_formOfTwo_238 q hq
                                                  · exact z_ok_s (z_w (show y_in (0 : Int32) (0) (0) from ⟨by decide, by decide⟩) (by decide) (by decide))

set_option maxHeartbeats 4000000 in
set_option maxRecDepth 100000 in
theorem t_k_De_sizeV_27 (t0 : Int32) (q : z_Sg) (ht0 : y_in t0 (2) (8)) (hq : iK q) : z_ok (k_De_sizeV_27 t0 q) (fun o : Int32 => y_in o (2) (8)) := by
  unfold k_De_sizeV_27
  exact z_ok_s ht0

set_option maxHeartbeats 4000000 in
set_option maxRecDepth 100000 in
theorem t_f_De_sizeV (q : z_Sg) (hq : iK q) : z_ok (f_De_sizeV q) (fun o : Int32 => y_in o (2) (8)) := by
  unfold f_De_sizeV
  refine z_ok_i (fun c60821 => ?_) (fun c60821 => ?_)
  · have z60822 : y_in ((z_gI q 6) &&& (8 : Int32)) (0) (0) := z_w (z_eq1 c60821 (show y_in (0 : Int32) (0) (0) from ⟨by decide, by decide⟩)) (by decide) (by decide)
    refine z_ok_i (fun c60823 => ?_) (fun c60823 => ?_)
    · have z60824 : y_in (z_gI q 5) (0) (0) := z_w (z_eq1 c60823 (show y_in (0 : Int32) (0) (0) from ⟨by decide, by decide⟩)) (by decide) (by decide)
      exact t_k_De_sizeV_27 (4 : Int32) q (z_w (show y_in (4 : Int32) (4) (4) from ⟨by decide, by decide⟩) (by decide) (by decide)) hq
    · have z60825 : y_in (z_gI q 5) (1) (1) := z_w (z_ne1 c60823 (iK_f5 hq) (by decide)) (by decide) (by decide)
      exact t_k_De_sizeV_27 (2 : Int32) q (z_w (show y_in (2 : Int32) (2) (2) from ⟨by decide, by decide⟩) (by decide) (by decide)) hq
  · have z60826 : y_in ((z_gI q 6) &&& (8 : Int32)) (1) (8) := z_w (z_ne1 c60821 (z_and (show y_in (8 : Int32) (8) (8) from ⟨by decide, by decide⟩) (by decide)) (by decide)) (by decide) (by decide)
    exact t_k_De_sizeV_27 (8 : Int32) q (z_w (show y_in (8 : Int32) (8) (8) from ⟨by decide, by decide⟩) (by decide) (by decide)) hq

set_option maxHeartbeats 4000000 in
set_option maxRecDepth 100000 in
theorem t_k_De_isToldInSize_51 (t0 : Int32) (q : z_Sg) (ht0 : y_in t0 (0) (1)) (hq : iK q) : z_ok (k_De_isToldInSize_51 t0 q) (fun o : Int32 => y_in o (0) (1)) := by
  unfold k_De_isToldInSize_51
  refine z_ok_G (z_bi ht0) ?_
  exact z_ok_s ht0

set_option maxHeartbeats 4000000 in
set_option maxRecDepth 100000 in
theorem t_k_De_isToldInSize_46 (q : z_Sg) (hq : iK q) : z_ok (k_De_isToldInSize_46 q) (fun o : Int32 => y_in o (0) (1)) := by
  unfold k_De_isToldInSize_46
  exact t_k_De_isToldInSize_51 (1 : Int32) q (z_w (show y_in (1 : Int32) (1) (1) from ⟨by decide, by decide⟩) (by decide) (by decide)) hq

set_option maxHeartbeats 4000000 in
set_option maxRecDepth 100000 in
theorem t_k_De_isToldInSize_33 (t0 : Int32) (q : z_Sg) (ht0 : y_in t0 (0) (1)) (hq : iK q) : z_ok (k_De_isToldInSize_33 t0 q) (fun o : Int32 => y_in o (0) (1)) := by
  unfold k_De_isToldInSize_33
  refine z_ok_i (fun c60827 => ?_) (fun c60827 => ?_)
  · have z60828 : y_in t0 (0) (0) := z_w (z_eq1 c60827 (show y_in (0 : Int32) (0) (0) from ⟨by decide, by decide⟩)) (by decide) (by decide)
    exact t_k_De_isToldInSize_46 q hq
  · have z60829 : y_in t0 (1) (1) := z_w (z_ne1 c60827 ht0 (by decide)) (by decide) (by decide)
    refine z_ok_b (t_f_De_sizeV q hq) (fun r5 hr5 => ?_)
    refine z_ok_i (fun c60830 => ?_) (fun c60830 => ?_)
    · have z60831 : y_in r5 (2) (2) := z_w (z_eq1 c60830 (show y_in (2 : Int32) (2) (2) from ⟨by decide, by decide⟩)) (by decide) (by decide)
      exact t_k_De_isToldInSize_51 (0 : Int32) q (z_w (show y_in (0 : Int32) (0) (0) from ⟨by decide, by decide⟩) (by decide) (by decide)) hq
    · have z60832 : y_in r5 (3) (8) := z_w (z_ne1 c60830 hr5 (by decide)) (by decide) (by decide)
      exact t_k_De_isToldInSize_46 q hq

set_option maxHeartbeats 4000000 in
set_option maxRecDepth 100000 in
theorem t_k_De_isToldInSize_15 (q : z_Sg) (hq : iK q) : z_ok (k_De_isToldInSize_15 q) (fun o : Int32 => y_in o (0) (1)) := by
  unfold k_De_isToldInSize_15
  refine z_ok_i (fun c60833 => ?_) (fun c60833 => ?_)
  · have z60834 : y_in ((z_gI q 11) &&& (-8 : Int32)) (456) (456) := z_w (z_eq1 c60833 (show y_in (456 : Int32) (456) (456) from ⟨by decide, by decide⟩)) (by decide) (by decide)
    exact t_k_De_isToldInSize_33 (1 : Int32) q (z_w (show y_in (1 : Int32) (1) (1) from ⟨by decide, by decide⟩) (by decide) (by decide)) hq
  · exact t_k_De_isToldInSize_33 (0 : Int32) q (z_w (show y_in (0 : Int32) (0) (0) from ⟨by decide, by decide⟩) (by decide) (by decide)) hq

set_option maxHeartbeats 4000000 in
set_option maxRecDepth 100000 in
theorem t_f_De_isToldInSize (x1 : Int32) (q : z_Sg) (hx1 : y_in x1 (1) (255)) (hq : iK q) : z_ok (f_De_isToldInSize x1 q) (fun o : Int32 => y_in o (0) (1)) := by
  unfold f_De_isToldInSize
  refine z_ok_i (fun c60835 => ?_) (fun c60835 => ?_)
  · have z60836 : y_in (z_gI q 5) (0) (0) := z_w (z_eq1 c60835 (show y_in (0 : Int32) (0) (0) from ⟨by decide, by decide⟩)) (by decide) (by decide)
    exact t_k_De_isToldInSize_15 q hq
  · have z60837 : y_in (z_gI q 5) (1) (1) := z_w (z_ne1 c60835 (iK_f5 hq) (by decide)) (by decide) (by decide)
    refine z_ok_i (fun c60838 => ?_) (fun c60838 => ?_)
    · have z60839 : y_in (x1 &&& (4 : Int32)) (0) (0) := z_w (z_eq1 c60838 (show y_in (0 : Int32) (0) (0) from ⟨by decide, by decide⟩)) (by decide) (by decide)
      exact t_k_De_isToldInSize_15 q hq
    · have z60840 : y_in (x1 &&& (4 : Int32)) (1) (4) := z_w (z_ne1 c60838 (z_and (show y_in (4 : Int32) (4) (4) from ⟨by decide, by decide⟩) (by decide)) (by decide)) (by decide) (by decide)
      exact z_ok_s (z_w (show y_in (0 : Int32) (0) (0) from ⟨by decide, by decide⟩) (by decide) (by decide))

set_option maxHeartbeats 4000000 in
set_option maxRecDepth 100000 in
theorem t_k_De_bytesOfNumber_94 (q : z_Sg) (hq : iK q) : z_ok (k_De_bytesOfNumber_94 q) (fun o : Int32 => y_in o (0) (8)) := by
  unfold k_De_bytesOfNumber_94
  refine z_ok_b (t_f_De_sizeV q hq) (fun r8 hr8 => ?_)
  refine z_ok_b (t_f_Ma_min (e := 2) (f := 4) r8 (4 : Int32) q hr8 (show y_in (4 : Int32) (4) (4) from ⟨by decide, by decide⟩) (by decide) (by decide)) (fun r9 hr9 => ?_)
  exact z_ok_s (z_w hr9 (by decide) (by decide))

set_option maxHeartbeats 4000000 in
set_option maxRecDepth 100000 in
theorem t_k_De_bytesOfNumber_112 (t0 : Int32) (q : z_Sg) (ht0 : y_in t0 (0) (1)) (hq : iK q) : z_ok (k_De_bytesOfNumber_112 t0 q) (fun o : Int32 => y_in o (0) (8)) := by
  unfold k_De_bytesOfNumber_112
  exact z_ok_s (z_w ht0 (by decide) (by decide))

set_option maxHeartbeats 4000000 in
set_option maxRecDepth 100000 in
theorem t_k_De_bytesOfNumber_103 (x2 : Int32) (q : z_Sg) (hx2 : y_in x2 (0) (1)) (hq : iK q) : z_ok (k_De_bytesOfNumber_103 x2 q) (fun o : Int32 => y_in o (0) (8)) := by
  unfold k_De_bytesOfNumber_103
  refine z_ok_i (fun c60841 => ?_) (fun c60841 => ?_)
  · have z60842 : y_in x2 (0) (0) := z_w (z_eq1 c60841 (show y_in (0 : Int32) (0) (0) from ⟨by decide, by decide⟩)) (by decide) (by decide)
    exact t_k_De_bytesOfNumber_112 (0 : Int32) q (z_w (show y_in (0 : Int32) (0) (0) from ⟨by decide, by decide⟩) (by decide) (by decide)) hq
  · have z60843 : y_in x2 (1) (1) := z_w (z_ne1 c60841 hx2 (by decide)) (by decide) (by decide)
    exact t_k_De_bytesOfNumber_112 (1 : Int32) q (z_w (show y_in (1 : Int32) (1) (1) from ⟨by decide, by decide⟩) (by decide) (by decide)) hq

set_option maxHeartbeats 4000000 in
set_option maxRecDepth 100000 in
theorem t_k_De_bytesOfNumber_71 (x1 : Int32) (t0 : Int32) (q : z_Sg) (hx1 : y_in x1 (1) (255)) (ht0 : y_in t0 (0) (1)) (hq : iK q) : z_ok (k_De_bytesOfNumber_71 x1 t0 q) (fun o : Int32 => y_in o (0) (8)) := by
  unfold k_De_bytesOfNumber_71
  refine z_ok_i (fun c60844 => ?_) (fun c60844 => ?_)
  · have z60845 : y_in (x1 &&& (128 : Int32)) (0) (0) := z_w (z_eq1 c60844 (show y_in (0 : Int32) (0) (0) from ⟨by decide, by decide⟩)) (by decide) (by decide)
    refine z_ok_i (fun c60846 => ?_) (fun c60846 => ?_)
    · have z60847 : y_in t0 (0) (0) := z_w (z_eq1 c60846 (show y_in (0 : Int32) (0) (0) from ⟨by decide, by decide⟩)) (by decide) (by decide)
      exact t_k_De_bytesOfNumber_103 t0 q (z_w z60847 (by decide) (by decide)) hq
    · have z60848 : y_in t0 (1) (1) := z_w (z_ne1 c60846 ht0 (by decide)) (by decide) (by decide)
      refine z_ok_i (fun c60849 => ?_) (fun c60849 => ?_)
      · have z60850 : y_in (z_gI q 11) (247) (247) := z_w (z_eq1 c60849 (show y_in (247 : Int32) (247) (247) from ⟨by decide, by decide⟩)) (by decide) (by decide)
        exact t_k_De_bytesOfNumber_94 q hq
      · exact t_k_De_bytesOfNumber_103 t0 q (z_w z60848 (by decide) (by decide)) hq
  · have z60851 : y_in (x1 &&& (128 : Int32)) (1) (128) := z_w (z_ne1 c60844 (z_and (show y_in (128 : Int32) (128) (128) from ⟨by decide, by decide⟩) (by decide)) (by decide)) (by decide) (by decide)
    exact t_k_De_bytesOfNumber_94 q hq

set_option maxHeartbeats 4000000 in
set_option maxRecDepth 100000 in
theorem t_k_De_bytesOfNumber_70 (x1 : Int32) (q : z_Sg) (hx1 : y_in x1 (1) (255)) (hq : iK q) : z_ok (k_De_bytesOfNumber_70 x1 q) (fun o : Int32 => y_in o (0) (8)) := by
  unfold k_De_bytesOfNumber_70
  exact t_k_De_bytesOfNumber_71 x1 (0 : Int32) q hx1 (z_w (show y_in (0 : Int32) (0) (0) from ⟨by decide, by decide⟩) (by decide) (by decide)) hq

set_option maxHeartbeats 4000000 in
set_option maxRecDepth 100000 in
theorem t_k_De_bytesOfNumber_59 (x1 : Int32) (q : z_Sg) (hx1 : y_in x1 (1) (255)) (hq : iK q) : z_ok (k_De_bytesOfNumber_59 x1 q) (fun o : Int32 => y_in o (0) (8)) := by
  unfold k_De_bytesOfNumber_59
  refine z_ok_i (fun c60852 => ?_) (fun c60852 => ?_)
  · have z60853 : y_in (z_gI q 13) (0) (0) := z_w (z_eq1 c60852 (show y_in (0 : Int32) (0) (0) from ⟨by decide, by decide⟩)) (by decide) (by decide)
    exact t_k_De_bytesOfNumber_71 x1 (1 : Int32) q hx1 (z_w (show y_in (1 : Int32) (1) (1) from ⟨by decide, by decide⟩) (by decide) (by decide)) hq
  · have z60854 : y_in (z_gI q 13) (1) (7) := z_w (z_ne1 c60852 (iK_f13 hq) (by decide)) (by decide) (by decide)
    exact t_k_De_bytesOfNumber_70 x1 q hx1 hq

set_option maxHeartbeats 4000000 in
set_option maxRecDepth 100000 in
theorem t_f_De_bytesOfNumber (x1 : Int32) (q : z_Sg) (hx1 : y_in x1 (1) (255)) (hq : iK q) : z_ok (f_De_bytesOfNumber x1 q) (fun o : Int32 => y_in o (0) (8)) := by
  unfold f_De_bytesOfNumber
  refine z_ok_i (fun c60855 => ?_) (fun c60855 => ?_)
  · have z60856 : y_in (x1 &&& (8 : Int32)) (0) (0) := z_w (z_eq1 c60855 (show y_in (0 : Int32) (0) (0) from ⟨by decide, by decide⟩)) (by decide) (by decide)
    refine z_ok_i (fun c60857 => ?_) (fun c60857 => ?_)
    · have z60858 : y_in (x1 &&& (16 : Int32)) (0) (0) := z_w (z_eq1 c60857 (show y_in (0 : Int32) (0) (0) from ⟨by decide, by decide⟩)) (by decide) (by decide)
      refine z_ok_i (fun c60859 => ?_) (fun c60859 => ?_)
      · have z60860 : y_in (x1 &&& (32 : Int32)) (0) (0) := z_w (z_eq1 c60859 (show y_in (0 : Int32) (0) (0) from ⟨by decide, by decide⟩)) (by decide) (by decide)
        refine z_ok_i (fun c60861 => ?_) (fun c60861 => ?_)
        · have z60862 : y_in (x1 &&& (64 : Int32)) (0) (0) := z_w (z_eq1 c60861 (show y_in (0 : Int32) (0) (0) from ⟨by decide, by decide⟩)) (by decide) (by decide)
          refine z_ok_i (fun c60863 => ?_) (fun c60863 => ?_)
          · have z60864 : y_in (z_gI q 11) (246) (246) := z_w (z_eq1 c60863 (show y_in (246 : Int32) (246) (246) from ⟨by decide, by decide⟩)) (by decide) (by decide)
            exact t_k_De_bytesOfNumber_59 x1 q hx1 hq
          · refine z_ok_i (fun c60865 => ?_) (fun c60865 => ?_)
            · have z60866 : y_in (z_gI q 11) (247) (247) := z_w (z_eq1 c60865 (show y_in (247 : Int32) (247) (247) from ⟨by decide, by decide⟩)) (by decide) (by decide)
              exact t_k_De_bytesOfNumber_59 x1 q hx1 hq
            · exact t_k_De_bytesOfNumber_70 x1 q hx1 hq
        · have z60867 : y_in (x1 &&& (64 : Int32)) (1) (64) := z_w (z_ne1 c60861 (z_and (show y_in (64 : Int32) (64) (64) from ⟨by decide, by decide⟩) (by decide)) (by decide)) (by decide) (by decide)
          refine z_ok_b (t_f_De_sizeV q hq) (fun r14 hr14 => ?_)
          exact z_ok_s (z_w hr14 (by decide) (by decide))
      · have z60868 : y_in (x1 &&& (32 : Int32)) (1) (32) := z_w (z_ne1 c60859 (z_and (show y_in (32 : Int32) (32) (32) from ⟨by decide, by decide⟩) (by decide)) (by decide)) (by decide) (by decide)
        exact z_ok_s (z_w (show y_in (4 : Int32) (4) (4) from ⟨by decide, by decide⟩) (by decide) (by decide))
    · have z60869 : y_in (x1 &&& (16 : Int32)) (1) (16) := z_w (z_ne1 c60857 (z_and (show y_in (16 : Int32) (16) (16) from ⟨by decide, by decide⟩) (by decide)) (by decide)) (by decide) (by decide)
      exact z_ok_s (z_w (show y_in (2 : Int32) (2) (2) from ⟨by decide, by decide⟩) (by decide) (by decide))
  · have z60870 : y_in (x1 &&& (8 : Int32)) (1) (8) := z_w (z_ne1 c60855 (z_and (show y_in (8 : Int32) (8) (8) from ⟨by decide, by decide⟩) (by decide)) (by decide)) (by decide) (by decide)
    exact z_ok_s (z_w (show y_in (1 : Int32) (1) (1) from ⟨by decide, by decide⟩) (by decide) (by decide))

set_option maxHeartbeats 4000000 in
set_option maxRecDepth 100000 in
theorem t_f_Ar_signed (x0 : Int64) (x2 : Int32) (q : z_Sg) (hx2 : y_in x2 (0) (8)) (hq : iK q) : z_ok (f_Ar_signed x0 x2 q) (fun _ : Int64 => True) := by
  unfold f_Ar_signed
  refine z_ok_n (fun n1 en1 => ?_)
  have hn1 : y_in n1 (0) (64) := z_e en1 (z_w (a' := 0) (b' := 64) (z_sub (show y_in (64 : Int32) (64) (64) from ⟨by decide, by decide⟩) (z_w (a' := 0) (b' := 64) (z_mul (show y_in (8 : Int32) (8) (8) from ⟨by decide, by decide⟩) hx2 (by decide) (by decide) (by decide)) (by decide) (by decide)) (by decide) (by decide)) (by decide) (by decide))
  exact z_ok_s trivial

set_option maxHeartbeats 4000000 in
set_option maxRecDepth 100000 in
theorem t_k_De_fetchNumber_65 (q : z_Sg) (hq : iK q) : z_ok (k_De_fetchNumber_65 q) (fun o : Int32 × z_Sg => iK o.2 ∧ y_in o.1 (-1) (14)) := by
  unfold k_De_fetchNumber_65
  exact z_ok_s ⟨hq, (z_w (show y_in (-1 : Int32) (-1) (-1) from ⟨by decide, by decide⟩) (by decide) (by decide))⟩

set_option maxHeartbeats 4000000 in
set_option maxRecDepth 100000 in
theorem t_kb_De_fetchNumber_7 (ih7 : Int32 × Int32 × z_Sg → Option (Int32 × z_Sg)) (x1 : Int32) (x2 : Int32) (q : z_Sg) (hi7 : ∀ (x1' : Int32) (x2' : Int32) (q' : z_Sg), y_in x1' (0) (8) → y_in x2' (0) (8) → iK q' → (8 - x2'.toInt).toNat < (8 - x2.toInt).toNat → z_ok (ih7 (x1', x2', q')) (fun o : Int32 × z_Sg => iK o.2 ∧ y_in o.1 (-1) (14))) (hx1 : y_in x1 (0) (8)) (hx2 : y_in x2 (0) (8)) (hq : iK q) : z_ok (kb_De_fetchNumber_7 ih7 x1 x2 q) (fun o : Int32 × z_Sg => iK o.2 ∧ y_in o.1 (-1) (14)) := by
  unfold kb_De_fetchNumber_7
  refine z_ok_i (fun c60871 => ?_) (fun c60871 => ?_)
  · refine z_ok_i (fun c60872 => ?_) (fun c60872 => ?_)
    · have z60873 : y_in x1 (0) (0) := z_w (z_le1 c60872 hx1 (show y_in (0 : Int32) (0) (0) from ⟨by decide, by decide⟩)) (by decide) (by decide)
      exact t_k_De_fetchNumber_65 q hq
    · have z60874 : y_in x1 (1) (8) := z_w (z_nle1 c60872 hx1 (show y_in (0 : Int32) (0) (0) from ⟨by decide, by decide⟩)) (by decide) (by decide)
      refine z_ok_b (t_f_Ar_signed (z_gL q 7) x1 q (z_w z60874 (by decide) (by decide)) hq) (fun r4 hr4 => ?_)
      refine z_ok_n (fun q5 eq5 => ?_)
      have hq5 : iK q5 := by rw [eq5]; exact (iK_sL hq)
      exact t_k_De_fetchNumber_65 q5 hq5
  · have z60875 : y_in x1 (1) (8) := z_w (z_nle1 c60871 hx1 hx2) (by decide) (by decide)
    have z60876 : y_in x2 (0) (7) := z_w (z_nle2 c60871 hx1 hx2) (by decide) (by decide)
    refine z_ok_b (t_f_De_fetch q hq) (fun r6 hr6 => ?_)
    refine z_ok_i (fun c60877 => ?_) (fun c60877 => ?_)
    · have z60878 : y_in r6.1 (-1) (-1) := z_w (z_eq1 c60877 (show y_in (-1 : Int32) (-1) (-1) from ⟨by decide, by decide⟩)) (by decide) (by decide)
      refine z_ok_n (fun q8 eq8 => ?_)
      have hq8 : iK q8 := by rw [eq8]; exact (iK_sL hr6.1)
      refine z_ok_n (fun n9 en9 => ?_)
      have hn9 : y_in n9 (1) (8) := z_e en9 (z_w (a' := 1) (b' := 8) (z_add z60876 (show y_in (1 : Int32) (1) (1) from ⟨by decide, by decide⟩) (by decide) (by decide)) (by decide) (by decide))
      exact hi7 x1 n9 q8 (z_w z60875 (by decide) (by decide)) (z_w hn9 (by decide) (by decide)) hq8 (z_mu (8) 1 z60876 en9 (by decide) (by decide) (by decide) (by decide))
    · have z60879 : y_in r6.1 (0) (14) := z_w (z_ne1 c60877 hr6.2 (by decide)) (by decide) (by decide)
      exact z_ok_s ⟨hr6.1, (z_w z60879 (by decide) (by decide))⟩

set_option maxHeartbeats 4000000 in
set_option maxRecDepth 100000 in
theorem t_k_De_fetchNumber_7 (x1 : Int32) (x2 : Int32) (q : z_Sg) (hx1 : y_in x1 (0) (8)) (hx2 : y_in x2 (0) (0)) (hq : iK q) : z_ok (k_De_fetchNumber_7 x1 x2 q) (fun o : Int32 × z_Sg => iK o.2 ∧ y_in o.1 (-1) (14)) := by
  unfold k_De_fetchNumber_7
  refine z_ok_l (fun a : Int32 × Int32 × z_Sg => y_in a.1 (0) (8) ∧ y_in a.2.1 (0) (8) ∧ iK a.2.2) (fun a => (8 - a.2.1.toInt).toNat) ?_ (x1, x2, q) ⟨hx1, (z_w hx2 (by decide) (by decide)), hq⟩ (by show ((8 - x2.toInt).toNat) < 2000; have z1 := hx2.1; have z2 := hx2.2; omega)
  intro ih a ha hih
  exact t_kb_De_fetchNumber_7 ih a.1 a.2.1 a.2.2 (fun x1' x2' q' hx1' hx2' hq' hm => hih (x1', x2', q') ⟨hx1', hx2', hq'⟩ hm) ha.1 ha.2.1 ha.2.2

set_option maxHeartbeats 4000000 in
set_option maxRecDepth 100000 in
theorem t_f_De_fetchNumber (x1 : Int32) (q : z_Sg) (hx1 : y_in x1 (0) (8)) (hq : iK q) : z_ok (f_De_fetchNumber x1 q) (fun o : Int32 × z_Sg => iK o.2 ∧ y_in o.1 (-1) (14)) := by
  unfold f_De_fetchNumber
  refine z_ok_n (fun q1 eq1 => ?_)
  have hq1 : iK q1 := by rw [eq1]; exact (iK_sL hq)
  exact t_k_De_fetchNumber_7 x1 (0 : Int32) q1 hx1 (show y_in (0 : Int32) (0) (0) from ⟨by decide, by decide⟩) hq1

set_option maxHeartbeats 4000000 in
set_option maxRecDepth 100000 in
theorem t_k_De_extension_15 (t0 : Int32) (q : z_Sg) (ht0 : y_in t0 (0) (8)) (hq : iK q) : z_ok (k_De_extension_15 t0 q) (fun o : Int32 => y_in o (0) (8)) := by
  unfold k_De_extension_15
  exact z_ok_s ht0

set_option maxHeartbeats 4000000 in
set_option maxRecDepth 100000 in
theorem t_f_De_extension (x1 : Int32) (q : z_Sg) (hx1 : y_in x1 (1) (4)) (hq : iK q) : z_ok (f_De_extension x1 q) (fun o : Int32 => y_in o (0) (8)) := by
  unfold f_De_extension
  refine z_ok_i (fun c60880 => ?_) (fun c60880 => ?_)
  · have z60881 : y_in ((z_gI q 6) &&& x1) (0) (0) := z_w (z_eq1 c60880 (show y_in (0 : Int32) (0) (0) from ⟨by decide, by decide⟩)) (by decide) (by decide)
    exact t_k_De_extension_15 (0 : Int32) q (z_w (show y_in (0 : Int32) (0) (0) from ⟨by decide, by decide⟩) (by decide) (by decide)) hq
  · have z60882 : y_in ((z_gI q 6) &&& x1) (1) (4) := z_w (z_ne1 c60880 (z_and hx1 (by decide)) (by decide)) (by decide) (by decide)
    exact t_k_De_extension_15 (8 : Int32) q (z_w (show y_in (8 : Int32) (8) (8) from ⟨by decide, by decide⟩) (by decide) (by decide)) hq

set_option maxHeartbeats 4000000 in
set_option maxRecDepth 100000 in
theorem t_k_De_fetchPlace_174 (x1 : Int32) (q : z_Sg) (hx1 : y_in x1 (0) (4)) (hq : iK q) : z_ok (k_De_fetchPlace_174 x1 q) (fun o : Int32 × z_Sg => iK o.2 ∧ y_in o.1 (-1) (14)) := by
  unfold k_De_fetchPlace_174
  refine z_ok_b (t_f_De_fetchNumber x1 q (z_w hx1 (by decide) (by decide)) hq) (fun r9 hr9 => ?_)
  refine z_ok_n (fun q10 eq10 => ?_)
  have hq10 : iK q10 := by rw [eq10]; exact (iK_sL hr9.1)
  exact z_ok_s ⟨hq10, hr9.2⟩

set_option maxHeartbeats 4000000 in
set_option maxRecDepth 100000 in
theorem t_k_De_fetchPlace_169 (t1 : Int32) (q : z_Sg) (ht1 : y_in t1 (-2) (-1)) (hq : iK q) : z_ok (k_De_fetchPlace_169 t1 q) (fun o : Int32 × z_Sg => iK o.2 ∧ y_in o.1 (-1) (14)) := by
  unfold k_De_fetchPlace_169
  refine z_ok_n (fun q13 eq13 => ?_)
  have hq13 : iK q13 := by rw [eq13]; exact (iK_sI7 hq (z_w ht1 (by decide) (by decide)))
  exact t_k_De_fetchPlace_174 (4 : Int32) q13 (z_w (show y_in (4 : Int32) (4) (4) from ⟨by decide, by decide⟩) (by decide) (by decide)) hq13

set_option maxHeartbeats 4000000 in
set_option maxRecDepth 100000 in
theorem t_k_De_fetchPlace_135 (t0 : Int32) (q : z_Sg) (ht0 : y_in t0 (0) (4)) (hq : iK q) : z_ok (k_De_fetchPlace_135 t0 q) (fun o : Int32 × z_Sg => iK o.2 ∧ y_in o.1 (-1) (14)) := by
  unfold k_De_fetchPlace_135
  refine z_ok_i (fun c60883 => ?_) (fun c60883 => ?_)
  · have z60884 : y_in (z_gI q 12) (0) (0) := z_w (z_eq1 c60883 (show y_in (0 : Int32) (0) (0) from ⟨by decide, by decide⟩)) (by decide) (by decide)
    refine z_ok_i (fun c60885 => ?_) (fun c60885 => ?_)
    · have z60886 : y_in ((z_gI q 7) &&& (7 : Int32)) (5) (5) := z_w (z_eq1 c60885 (show y_in (5 : Int32) (5) (5) from ⟨by decide, by decide⟩)) (by decide) (by decide)
      refine z_ok_i (fun c60887 => ?_) (fun c60887 => ?_)
      · have z60888 : y_in (z_gI q 14) (4) (4) := z_w (z_eq1 c60887 (show y_in (4 : Int32) (4) (4) from ⟨by decide, by decide⟩)) (by decide) (by decide)
        exact t_k_De_fetchPlace_169 (-1 : Int32) q (z_w (show y_in (-1 : Int32) (-1) (-1) from ⟨by decide, by decide⟩) (by decide) (by decide)) hq
      · exact t_k_De_fetchPlace_169 (-2 : Int32) q (z_w (show y_in (-2 : Int32) (-2) (-2) from ⟨by decide, by decide⟩) (by decide) (by decide)) hq
    · exact t_k_De_fetchPlace_174 t0 q ht0 hq
  · have z60889 : y_in (z_gI q 12) (1) (255) := z_w (z_ne1 c60883 (iK_f12 hq) (by decide)) (by decide) (by decide)
    exact t_k_De_fetchPlace_174 t0 q ht0 hq

set_option maxHeartbeats 4000000 in
set_option maxRecDepth 100000 in
theorem t_k_De_fetchPlace_111 (q : z_Sg) (hq : iK q) : z_ok (k_De_fetchPlace_111 q) (fun o : Int32 × z_Sg => iK o.2 ∧ y_in o.1 (-1) (14)) := by
  unfold k_De_fetchPlace_111
  refine z_ok_i (fun c60890 => ?_) (fun c60890 => ?_)
  · have z60891 : y_in (z_gI q 12) (0) (0) := z_w (z_eq1 c60890 (show y_in (0 : Int32) (0) (0) from ⟨by decide, by decide⟩)) (by decide) (by decide)
    exact t_k_De_fetchPlace_135 (0 : Int32) q (z_w (show y_in (0 : Int32) (0) (0) from ⟨by decide, by decide⟩) (by decide) (by decide)) hq
  · have z60892 : y_in (z_gI q 12) (1) (255) := z_w (z_ne1 c60890 (iK_f12 hq) (by decide)) (by decide) (by decide)
    refine z_ok_i (fun c60893 => ?_) (fun c60893 => ?_)
    · have z60894 : y_in (z_gI q 12) (1) (1) := z_w (z_eq1 c60893 (show y_in (1 : Int32) (1) (1) from ⟨by decide, by decide⟩)) (by decide) (by decide)
      exact t_k_De_fetchPlace_135 (1 : Int32) q (z_w (show y_in (1 : Int32) (1) (1) from ⟨by decide, by decide⟩) (by decide) (by decide)) hq
    · have z60895 : y_in (z_gI q 12) (2) (255) := z_w (z_ne1 c60893 z60892 (by decide)) (by decide) (by decide)
      exact t_k_De_fetchPlace_135 (4 : Int32) q (z_w (show y_in (4 : Int32) (4) (4) from ⟨by decide, by decide⟩) (by decide) (by decide)) hq

set_option maxHeartbeats 4000000 in
set_option maxRecDepth 100000 in
theorem t_k_De_fetchPlace_97 (t1 : Int32) (q : z_Sg) (ht1 : y_in t1 (-1) (15)) (hq : iK q) : z_ok (k_De_fetchPlace_97 t1 q) (fun o : Int32 × z_Sg => iK o.2 ∧ y_in o.1 (-1) (14)) := by
  unfold k_De_fetchPlace_97
  refine z_ok_n (fun q21 eq21 => ?_)
  have hq21 : iK q21 := by rw [eq21]; exact (iK_sI8 hq ht1)
  refine z_ok_n (fun q22 eq22 => ?_)
  have hq22 : iK q22 := by rw [eq22]; exact (iK_sI9 hq21 (z_shr 6 _ (by decide) (iK_f4 hq21) (by decide)))
  exact t_k_De_fetchPlace_111 q22 hq22

set_option maxHeartbeats 4000000 in
set_option maxRecDepth 100000 in
theorem t_f_De_fetchPlace (q : z_Sg) (hq : iK q) : z_ok (f_De_fetchPlace q) (fun o : Int32 × z_Sg => iK o.2 ∧ y_in o.1 (-1) (14)) := by
  unfold f_De_fetchPlace
  refine z_ok_b (t_f_De_extension (1 : Int32) q (z_w (show y_in (1 : Int32) (1) (1) from ⟨by decide, by decide⟩) (by decide) (by decide)) hq) (fun r1 hr1 => ?_)
  refine z_ok_n (fun q2 eq2 => ?_)
  have hq2 : iK q2 := by rw [eq2]; exact (iK_sI7 hq (z_w (z_w (a' := 0) (b' := 15) (z_or 4 (iK_f14 hq) hr1 (by decide) (by decide) (by decide) (by decide) (by decide)) (by decide) (by decide)) (by decide) (by decide)))
  refine z_ok_n (fun q3 eq3 => ?_)
  have hq3 : iK q3 := by rw [eq3]; exact (iK_sI8 hq2 (z_w (show y_in (-1 : Int32) (-1) (-1) from ⟨by decide, by decide⟩) (by decide) (by decide)))
  refine z_ok_n (fun q4 eq4 => ?_)
  have hq4 : iK q4 := by rw [eq4]; exact (iK_sI9 hq3 (z_w (show y_in (0 : Int32) (0) (0) from ⟨by decide, by decide⟩) (by decide) (by decide)))
  refine z_ok_i (fun c60896 => ?_) (fun c60896 => ?_)
  · have z60897 : y_in (z_gI q4 14) (4) (4) := z_w (z_eq1 c60896 (show y_in (4 : Int32) (4) (4) from ⟨by decide, by decide⟩)) (by decide) (by decide)
    refine z_ok_b (t_f_De_fetch q4 hq4) (fun r14 hr14 => ?_)
    refine z_ok_i (fun c60898 => ?_) (fun c60898 => ?_)
    · have z60899 : y_in r14.1 (-1) (-1) := z_w (z_eq1 c60898 (show y_in (-1 : Int32) (-1) (-1) from ⟨by decide, by decide⟩)) (by decide) (by decide)
      refine z_ok_b (t_f_De_extension (1 : Int32) r14.2 (z_w (show y_in (1 : Int32) (1) (1) from ⟨by decide, by decide⟩) (by decide) (by decide)) hr14.1) (fun r16 hr16 => ?_)
      refine z_ok_n (fun q17 eq17 => ?_)
      have hq17 : iK q17 := by rw [eq17]; exact (iK_sI7 hr14.1 (z_w (z_w (a' := 0) (b' := 15) (z_or 4 (z_and (show y_in (7 : Int32) (7) (7) from ⟨by decide, by decide⟩) (by decide)) hr16 (by decide) (by decide) (by decide) (by decide) (by decide)) (by decide) (by decide)) (by decide) (by decide)))
      refine z_ok_b (t_f_De_extension (2 : Int32) q17 (z_w (show y_in (2 : Int32) (2) (2) from ⟨by decide, by decide⟩) (by decide) (by decide)) hq17) (fun r18 hr18 => ?_)
      refine z_ok_n (fun q19 eq19 => ?_)
      have hq19 : iK q19 := by rw [eq19]; exact (iK_sI8 hq17 (z_w (z_w (a' := 0) (b' := 15) (z_or 4 (z_and (show y_in (7 : Int32) (7) (7) from ⟨by decide, by decide⟩) (by decide)) hr18 (by decide) (by decide) (by decide) (by decide) (by decide)) (by decide) (by decide)) (by decide) (by decide)))
      refine z_ok_i (fun c60900 => ?_) (fun c60900 => ?_)
      · have z60901 : y_in (z_gI q19 8) (4) (4) := z_w (z_eq1 c60900 (show y_in (4 : Int32) (4) (4) from ⟨by decide, by decide⟩)) (by decide) (by decide)
        exact t_k_De_fetchPlace_97 (-1 : Int32) q19 (z_w (show y_in (-1 : Int32) (-1) (-1) from ⟨by decide, by decide⟩) (by decide) (by decide)) hq19
      · exact t_k_De_fetchPlace_97 (z_gI q19 8) q19 (iK_f8 hq19) hq19
    · have z60902 : y_in r14.1 (0) (14) := z_w (z_ne1 c60898 hr14.2 (by decide)) (by decide) (by decide)
      exact z_ok_s ⟨hr14.1, (z_w z60902 (by decide) (by decide))⟩
  · exact t_k_De_fetchPlace_111 q4 hq4

set_option maxHeartbeats 4000000 in
set_option maxRecDepth 100000 in
theorem t_k_De_isToldWithModrm_149 (t0 : Int32) (q : z_Sg) (ht0 : y_in t0 (0) (1)) (hq : iK q) : z_ok (k_De_isToldWithModrm_149 t0 q) (fun o : Int32 => y_in o (0) (1)) := by
  unfold k_De_isToldWithModrm_149
  refine z_ok_G (z_bi ht0) ?_
  exact z_ok_s ht0

set_option maxHeartbeats 4000000 in
set_option maxRecDepth 100000 in
theorem t_k_De_isToldWithModrm_162 (t0 : Int32) (q : z_Sg) (ht0 : y_in t0 (0) (1)) (hq : iK q) : z_ok (k_De_isToldWithModrm_162 t0 q) (fun o : Int32 => y_in o (0) (1)) := by
  unfold k_De_isToldWithModrm_162
  refine z_ok_G (z_bi ht0) ?_
  exact z_ok_s ht0

set_option maxHeartbeats 4000000 in
set_option maxRecDepth 100000 in
theorem t_k_De_isToldWithModrm_150 (q : z_Sg) (hq : iK q) : z_ok (k_De_isToldWithModrm_150 q) (fun o : Int32 => y_in o (0) (1)) := by
  unfold k_De_isToldWithModrm_150
  refine z_ok_i (fun c60903 => ?_) (fun c60903 => ?_)
  · have z60904 : y_in (z_gI q 13) (0) (0) := z_w (z_eq1 c60903 (show y_in (0 : Int32) (0) (0) from ⟨by decide, by decide⟩)) (by decide) (by decide)
    exact t_k_De_isToldWithModrm_162 (1 : Int32) q (z_w (show y_in (1 : Int32) (1) (1) from ⟨by decide, by decide⟩) (by decide) (by decide)) hq
  · have z60905 : y_in (z_gI q 13) (1) (7) := z_w (z_ne1 c60903 (iK_f13 hq) (by decide)) (by decide) (by decide)
    exact t_k_De_isToldWithModrm_162 (0 : Int32) q (z_w (show y_in (0 : Int32) (0) (0) from ⟨by decide, by decide⟩) (by decide) (by decide)) hq

set_option maxHeartbeats 4000000 in
set_option maxRecDepth 100000 in
theorem t_k_De_isToldWithModrm_177 (t0 : Int32) (q : z_Sg) (ht0 : y_in t0 (0) (1)) (hq : iK q) : z_ok (k_De_isToldWithModrm_177 t0 q) (fun o : Int32 => y_in o (0) (1)) := by
  unfold k_De_isToldWithModrm_177
  refine z_ok_G (z_bi ht0) ?_
  exact z_ok_s ht0

set_option maxHeartbeats 4000000 in
set_option maxRecDepth 100000 in
theorem t_k_De_isToldWithModrm_163 (q : z_Sg) (hq : iK q) : z_ok (k_De_isToldWithModrm_163 q) (fun o : Int32 => y_in o (0) (1)) := by
  unfold k_De_isToldWithModrm_163
  refine z_ok_i (fun c60906 => ?_) (fun c60906 => ?_)
  · have z60907 : y_in (z_gI q 13) (6) (6) := z_w (z_eq1 c60906 (show y_in (6 : Int32) (6) (6) from ⟨by decide, by decide⟩)) (by decide) (by decide)
    exact t_k_De_isToldWithModrm_177 (0 : Int32) q (z_w (show y_in (0 : Int32) (0) (0) from ⟨by decide, by decide⟩) (by decide) (by decide)) hq
  · exact t_k_De_isToldWithModrm_177 (1 : Int32) q (z_w (show y_in (1 : Int32) (1) (1) from ⟨by decide, by decide⟩) (by decide) (by decide)) hq

set_option maxHeartbeats 4000000 in
set_option maxRecDepth 100000 in
theorem t_k_De_isToldWithModrm_191 (t0 : Int32) (q : z_Sg) (ht0 : y_in t0 (0) (1)) (hq : iK q) : z_ok (k_De_isToldWithModrm_191 t0 q) (fun o : Int32 => y_in o (0) (1)) := by
  unfold k_De_isToldWithModrm_191
  refine z_ok_G (z_bi ht0) ?_
  exact z_ok_s ht0

set_option maxHeartbeats 4000000 in
set_option maxRecDepth 100000 in
theorem t_k_De_isToldWithModrm_178 (q : z_Sg) (hq : iK q) : z_ok (k_De_isToldWithModrm_178 q) (fun o : Int32 => y_in o (0) (1)) := by
  unfold k_De_isToldWithModrm_178
  refine z_ok_i (fun c60908 => ?_) (fun c60908 => ?_)
  · have z60909 : y_in (z_gI q 13) (1) (1) := z_w (z_eq1 c60908 (show y_in (1 : Int32) (1) (1) from ⟨by decide, by decide⟩)) (by decide) (by decide)
    exact t_k_De_isToldWithModrm_191 (0 : Int32) q (z_w (show y_in (0 : Int32) (0) (0) from ⟨by decide, by decide⟩) (by decide) (by decide)) hq
  · exact t_k_De_isToldWithModrm_191 (1 : Int32) q (z_w (show y_in (1 : Int32) (1) (1) from ⟨by decide, by decide⟩) (by decide) (by decide)) hq

set_option maxHeartbeats 4000000 in
set_option maxRecDepth 100000 in
theorem t_k_De_isToldWithModrm_205 (t0 : Int32) (q : z_Sg) (ht0 : y_in t0 (0) (1)) (hq : iK q) : z_ok (k_De_isToldWithModrm_205 t0 q) (fun o : Int32 => y_in o (0) (1)) := by
  unfold k_De_isToldWithModrm_205
  refine z_ok_G (z_bi ht0) ?_
  exact z_ok_s ht0

set_option maxHeartbeats 4000000 in
set_option maxRecDepth 100000 in
theorem t_k_De_isToldWithModrm_251 (t0 : Int32) (q : z_Sg) (ht0 : y_in t0 (0) (1)) (hq : iK q) : z_ok (k_De_isToldWithModrm_251 t0 q) (fun o : Int32 => y_in o (0) (1)) := by
  unfold k_De_isToldWithModrm_251
  refine z_ok_G (z_bi ht0) ?_
  exact z_ok_s ht0

set_option maxHeartbeats 4000000 in
set_option maxRecDepth 100000 in
theorem t_k_De_isToldWithModrm_246 (q : z_Sg) (hq : iK q) : z_ok (k_De_isToldWithModrm_246 q) (fun o : Int32 => y_in o (0) (1)) := by
  unfold k_De_isToldWithModrm_246
  exact t_k_De_isToldWithModrm_251 (1 : Int32) q (z_w (show y_in (1 : Int32) (1) (1) from ⟨by decide, by decide⟩) (by decide) (by decide)) hq

set_option maxHeartbeats 4000000 in
set_option maxRecDepth 100000 in
theorem t_k_De_isToldWithModrm_250 (q : z_Sg) (hq : iK q) : z_ok (k_De_isToldWithModrm_250 q) (fun o : Int32 => y_in o (0) (1)) := by
  unfold k_De_isToldWithModrm_250
  exact t_k_De_isToldWithModrm_251 (0 : Int32) q (z_w (show y_in (0 : Int32) (0) (0) from ⟨by decide, by decide⟩) (by decide) (by decide)) hq

set_option maxHeartbeats 4000000 in
set_option maxRecDepth 100000 in
theorem t_k_De_isToldWithModrm_239 (q : z_Sg) (hq : iK q) : z_ok (k_De_isToldWithModrm_239 q) (fun o : Int32 => y_in o (0) (1)) := by
  unfold k_De_isToldWithModrm_239
  refine z_ok_i (fun c60910 => ?_) (fun c60910 => ?_)
  · have z60911 : y_in (z_gI q 5) (0) (0) := z_w (z_eq1 c60910 (show y_in (0 : Int32) (0) (0) from ⟨by decide, by decide⟩)) (by decide) (by decide)
    exact t_k_De_isToldWithModrm_246 q hq
  · have z60912 : y_in (z_gI q 5) (1) (1) := z_w (z_ne1 c60910 (iK_f5 hq) (by decide)) (by decide) (by decide)
    exact t_k_De_isToldWithModrm_250 q hq

set_option maxHeartbeats 4000000 in
set_option maxRecDepth 100000 in
theorem t_k_De_isToldWithModrm_265 (t0 : Int32) (q : z_Sg) (ht0 : y_in t0 (0) (1)) (hq : iK q) : z_ok (k_De_isToldWithModrm_265 t0 q) (fun o : Int32 => y_in o (0) (1)) := by
  unfold k_De_isToldWithModrm_265
  refine z_ok_G (z_bi ht0) ?_
  exact z_ok_s ht0

set_option maxHeartbeats 4000000 in
set_option maxRecDepth 100000 in
theorem t_f_De_isToldWithModrm (q : z_Sg) (hq : iK q) : z_ok (f_De_isToldWithModrm q) (fun o : Int32 => y_in o (0) (1)) := by
  unfold f_De_isToldWithModrm
  refine z_ok_i (fun c60913 => ?_) (fun c60913 => ?_)
  · have z60914 : y_in (z_gI q 11) (141) (141) := z_w (z_eq1 c60913 (show y_in (141 : Int32) (141) (141) from ⟨by decide, by decide⟩)) (by decide) (by decide)
    refine z_ok_i (fun c60915 => ?_) (fun c60915 => ?_)
    · have z60916 : y_in (z_gI q 12) (3) (3) := z_w (z_eq1 c60915 (show y_in (3 : Int32) (3) (3) from ⟨by decide, by decide⟩)) (by decide) (by decide)
      exact t_k_De_isToldWithModrm_149 (0 : Int32) q (z_w (show y_in (0 : Int32) (0) (0) from ⟨by decide, by decide⟩) (by decide) (by decide)) hq
    · exact t_k_De_isToldWithModrm_149 (1 : Int32) q (z_w (show y_in (1 : Int32) (1) (1) from ⟨by decide, by decide⟩) (by decide) (by decide)) hq
  · refine z_ok_i (fun c60917 => ?_) (fun c60917 => ?_)
    · have z60918 : y_in (z_gI q 11) (143) (143) := z_w (z_eq1 c60917 (show y_in (143 : Int32) (143) (143) from ⟨by decide, by decide⟩)) (by decide) (by decide)
      exact t_k_De_isToldWithModrm_150 q hq
    · refine z_ok_i (fun c60919 => ?_) (fun c60919 => ?_)
      · have z60920 : y_in (z_gI q 11) (192) (192) := z_w (z_eq1 c60919 (show y_in (192 : Int32) (192) (192) from ⟨by decide, by decide⟩)) (by decide) (by decide)
        exact t_k_De_isToldWithModrm_163 q hq
      · refine z_ok_i (fun c60921 => ?_) (fun c60921 => ?_)
        · have z60922 : y_in (z_gI q 11) (193) (193) := z_w (z_eq1 c60921 (show y_in (193 : Int32) (193) (193) from ⟨by decide, by decide⟩)) (by decide) (by decide)
          exact t_k_De_isToldWithModrm_163 q hq
        · refine z_ok_i (fun c60923 => ?_) (fun c60923 => ?_)
          · have z60924 : y_in (z_gI q 11) (198) (198) := z_w (z_eq1 c60923 (show y_in (198 : Int32) (198) (198) from ⟨by decide, by decide⟩)) (by decide) (by decide)
            exact t_k_De_isToldWithModrm_150 q hq
          · refine z_ok_i (fun c60925 => ?_) (fun c60925 => ?_)
            · have z60926 : y_in (z_gI q 11) (199) (199) := z_w (z_eq1 c60925 (show y_in (199 : Int32) (199) (199) from ⟨by decide, by decide⟩)) (by decide) (by decide)
              exact t_k_De_isToldWithModrm_150 q hq
            · refine z_ok_i (fun c60927 => ?_) (fun c60927 => ?_)
              · have z60928 : y_in (z_gI q 11) (208) (208) := z_w (z_eq1 c60927 (show y_in (208 : Int32) (208) (208) from ⟨by decide, by decide⟩)) (by decide) (by decide)
                exact t_k_De_isToldWithModrm_163 q hq
              · refine z_ok_i (fun c60929 => ?_) (fun c60929 => ?_)
                · have z60930 : y_in (z_gI q 11) (209) (209) := z_w (z_eq1 c60929 (show y_in (209 : Int32) (209) (209) from ⟨by decide, by decide⟩)) (by decide) (by decide)
                  exact t_k_De_isToldWithModrm_163 q hq
                · refine z_ok_i (fun c60931 => ?_) (fun c60931 => ?_)
                  · have z60932 : y_in (z_gI q 11) (210) (210) := z_w (z_eq1 c60931 (show y_in (210 : Int32) (210) (210) from ⟨by decide, by decide⟩)) (by decide) (by decide)
                    exact t_k_De_isToldWithModrm_163 q hq
                  · refine z_ok_i (fun c60933 => ?_) (fun c60933 => ?_)
                    · have z60934 : y_in (z_gI q 11) (211) (211) := z_w (z_eq1 c60933 (show y_in (211 : Int32) (211) (211) from ⟨by decide, by decide⟩)) (by decide) (by decide)
                      exact t_k_De_isToldWithModrm_163 q hq
                    · refine z_ok_i (fun c60935 => ?_) (fun c60935 => ?_)
                      · have z60936 : y_in (z_gI q 11) (246) (246) := z_w (z_eq1 c60935 (show y_in (246 : Int32) (246) (246) from ⟨by decide, by decide⟩)) (by decide) (by decide)
                        exact t_k_De_isToldWithModrm_178 q hq
                      · refine z_ok_i (fun c60937 => ?_) (fun c60937 => ?_)
                        · have z60938 : y_in (z_gI q 11) (247) (247) := z_w (z_eq1 c60937 (show y_in (247 : Int32) (247) (247) from ⟨by decide, by decide⟩)) (by decide) (by decide)
                          exact t_k_De_isToldWithModrm_178 q hq
                        · refine z_ok_i (fun c60939 => ?_) (fun c60939 => ?_)
                          · have z60940 : y_in (z_gI q 11) (254) (254) := z_w (z_eq1 c60939 (show y_in (254 : Int32) (254) (254) from ⟨by decide, by decide⟩)) (by decide) (by decide)
                            refine z_ok_i (fun c60941 => ?_) (fun c60941 => ?_)
                            · have z60942 : y_in (z_gI q 13) (2) (7) := z_w (z_le2 c60941 (show y_in (2 : Int32) (2) (2) from ⟨by decide, by decide⟩) (iK_f13 hq)) (by decide) (by decide)
                              exact t_k_De_isToldWithModrm_205 (0 : Int32) q (z_w (show y_in (0 : Int32) (0) (0) from ⟨by decide, by decide⟩) (by decide) (by decide)) hq
                            · have z60943 : y_in (z_gI q 13) (0) (1) := z_w (z_nle2 c60941 (show y_in (2 : Int32) (2) (2) from ⟨by decide, by decide⟩) (iK_f13 hq)) (by decide) (by decide)
                              exact t_k_De_isToldWithModrm_205 (1 : Int32) q (z_w (show y_in (1 : Int32) (1) (1) from ⟨by decide, by decide⟩) (by decide) (by decide)) hq
                          · refine z_ok_i (fun c60944 => ?_) (fun c60944 => ?_)
                            · have z60945 : y_in (z_gI q 11) (255) (255) := z_w (z_eq1 c60944 (show y_in (255 : Int32) (255) (255) from ⟨by decide, by decide⟩)) (by decide) (by decide)
                              refine z_ok_i (fun c60946 => ?_) (fun c60946 => ?_)
                              · have z60947 : y_in (z_gI q 13) (0) (1) := z_w (z_lt1 c60946 (iK_f13 hq) (show y_in (2 : Int32) (2) (2) from ⟨by decide, by decide⟩)) (by decide) (by decide)
                                exact t_k_De_isToldWithModrm_246 q hq
                              · have z60948 : y_in (z_gI q 13) (2) (7) := z_w (z_nlt1 c60946 (iK_f13 hq) (show y_in (2 : Int32) (2) (2) from ⟨by decide, by decide⟩)) (by decide) (by decide)
                                refine z_ok_i (fun c60949 => ?_) (fun c60949 => ?_)
                                · have z60950 : y_in (z_gI q 13) (6) (6) := z_w (z_eq1 c60949 (show y_in (6 : Int32) (6) (6) from ⟨by decide, by decide⟩)) (by decide) (by decide)
                                  exact t_k_De_isToldWithModrm_246 q hq
                                · refine z_ok_i (fun c60951 => ?_) (fun c60951 => ?_)
                                  · have z60952 : y_in (z_gI q 13) (2) (2) := z_w (z_eq1 c60951 (show y_in (2 : Int32) (2) (2) from ⟨by decide, by decide⟩)) (by decide) (by decide)
                                    exact t_k_De_isToldWithModrm_239 q hq
                                  · have z60953 : y_in (z_gI q 13) (3) (7) := z_w (z_ne1 c60951 z60948 (by decide)) (by decide) (by decide)
                                    refine z_ok_i (fun c60954 => ?_) (fun c60954 => ?_)
                                    · have z60955 : y_in (z_gI q 13) (4) (4) := z_w (z_eq1 c60954 (show y_in (4 : Int32) (4) (4) from ⟨by decide, by decide⟩)) (by decide) (by decide)
                                      exact t_k_De_isToldWithModrm_239 q hq
                                    · exact t_k_De_isToldWithModrm_250 q hq
                            · refine z_ok_i (fun c60956 => ?_) (fun c60956 => ?_)
                              · have z60957 : y_in (z_gI q 11) (442) (442) := z_w (z_eq1 c60956 (show y_in (442 : Int32) (442) (442) from ⟨by decide, by decide⟩)) (by decide) (by decide)
                                refine z_ok_i (fun c60958 => ?_) (fun c60958 => ?_)
                                · have z60959 : y_in (z_gI q 13) (0) (3) := z_w (z_lt1 c60958 (iK_f13 hq) (show y_in (4 : Int32) (4) (4) from ⟨by decide, by decide⟩)) (by decide) (by decide)
                                  exact t_k_De_isToldWithModrm_265 (0 : Int32) q (z_w (show y_in (0 : Int32) (0) (0) from ⟨by decide, by decide⟩) (by decide) (by decide)) hq
                                · have z60960 : y_in (z_gI q 13) (4) (7) := z_w (z_nlt1 c60958 (iK_f13 hq) (show y_in (4 : Int32) (4) (4) from ⟨by decide, by decide⟩)) (by decide) (by decide)
                                  exact t_k_De_isToldWithModrm_265 (1 : Int32) q (z_w (show y_in (1 : Int32) (1) (1) from ⟨by decide, by decide⟩) (by decide) (by decide)) hq
                              · exact z_ok_s (z_w (show y_in (1 : Int32) (1) (1) from ⟨by decide, by decide⟩) (by decide) (by decide))

set_option maxHeartbeats 4000000 in
set_option maxRecDepth 100000 in
theorem t_k_De_fetchModrm_60 (t0 : Int32) (q : z_Sg) (ht0 : y_in t0 (-1) (6)) (hq : iK q) : z_ok (k_De_fetchModrm_60 t0 q) (fun o : Int32 × z_Sg => iK o.2 ∧ y_in o.1 (-1) (14)) := by
  unfold k_De_fetchModrm_60
  exact z_ok_s ⟨hq, (z_w ht0 (by decide) (by decide))⟩

set_option maxHeartbeats 4000000 in
set_option maxRecDepth 100000 in
theorem t_f_De_fetchModrm (q : z_Sg) (hq : iK q) : z_ok (f_De_fetchModrm q) (fun o : Int32 × z_Sg => iK o.2 ∧ y_in o.1 (-1) (14)) := by
  unfold f_De_fetchModrm
  refine z_ok_b (t_f_De_fetch q hq) (fun r1 hr1 => ?_)
  refine z_ok_i (fun c60961 => ?_) (fun c60961 => ?_)
  · have z60962 : y_in r1.1 (-1) (-1) := z_w (z_eq1 c60961 (show y_in (-1 : Int32) (-1) (-1) from ⟨by decide, by decide⟩)) (by decide) (by decide)
    refine z_ok_n (fun q3 eq3 => ?_)
    have hq3 : iK q3 := by rw [eq3]; exact (iK_sI12 hr1.1 (z_shr 6 _ (by decide) (iK_f4 hr1.1) (by decide)))
    refine z_ok_n (fun q4 eq4 => ?_)
    have hq4 : iK q4 := by rw [eq4]; exact (iK_sI13 hq3 (z_and (show y_in (7 : Int32) (7) (7) from ⟨by decide, by decide⟩) (by decide)))
    refine z_ok_n (fun q5 eq5 => ?_)
    have hq5 : iK q5 := by rw [eq5]; exact (iK_sI14 hq4 (z_and (show y_in (7 : Int32) (7) (7) from ⟨by decide, by decide⟩) (by decide)))
    refine z_ok_b (t_f_De_isToldWithModrm q5 hq5) (fun r6 hr6 => ?_)
    refine z_ok_i (fun c60963 => ?_) (fun c60963 => ?_)
    · have z60964 : y_in r6 (0) (0) := z_w (z_eq1 c60963 (show y_in (0 : Int32) (0) (0) from ⟨by decide, by decide⟩)) (by decide) (by decide)
      exact t_k_De_fetchModrm_60 (6 : Int32) q5 (z_w (show y_in (6 : Int32) (6) (6) from ⟨by decide, by decide⟩) (by decide) (by decide)) hq5
    · have z60965 : y_in r6 (1) (1) := z_w (z_ne1 c60963 hr6 (by decide)) (by decide) (by decide)
      exact t_k_De_fetchModrm_60 (-1 : Int32) q5 (z_w (show y_in (-1 : Int32) (-1) (-1) from ⟨by decide, by decide⟩) (by decide) (by decide)) hq5
  · have z60966 : y_in r1.1 (0) (14) := z_w (z_ne1 c60961 hr1.2 (by decide)) (by decide) (by decide)
    exact z_ok_s ⟨hr1.1, (z_w z60966 (by decide) (by decide))⟩

set_option maxHeartbeats 4000000 in
set_option maxRecDepth 100000 in
theorem t_k_De_formOfSum_39 (q : z_Sg) (hq : iK q) : z_ok (k_De_formOfSum_39 q) (fun o : Int32 => y_in o (0) (128)) := by
  unfold k_De_formOfSum_39
  exact z_ok_s (z_w (show y_in (0 : Int32) (0) (0) from ⟨by decide, by decide⟩) (by decide) (by decide))

set_option maxHeartbeats 4000000 in
set_option maxRecDepth 100000 in
theorem t_f_De_formOfSum (x0 : Int32) (q : z_Sg) (hx0 : y_in x0 (0) (7)) (hq : iK q) : z_ok (f_De_formOfSum x0 q) (fun o : Int32 => y_in o (0) (128)) := by
  unfold f_De_formOfSum
  refine z_ok_i (fun c60967 => ?_) (fun c60967 => ?_)
  · have z60968 : y_in x0 (4) (4) := z_w (z_eq1 c60967 (show y_in (4 : Int32) (4) (4) from ⟨by decide, by decide⟩)) (by decide) (by decide)
    exact z_ok_s (z_w (show y_in (8 : Int32) (8) (8) from ⟨by decide, by decide⟩) (by decide) (by decide))
  · refine z_ok_i (fun c60969 => ?_) (fun c60969 => ?_)
    · have z60970 : y_in x0 (5) (5) := z_w (z_eq1 c60969 (show y_in (5 : Int32) (5) (5) from ⟨by decide, by decide⟩)) (by decide) (by decide)
      exact z_ok_s (z_w (show y_in (128 : Int32) (128) (128) from ⟨by decide, by decide⟩) (by decide) (by decide))
    · refine z_ok_i (fun c60971 => ?_) (fun c60971 => ?_)
      · have z60972 : y_in x0 (6) (6) := z_w (z_eq1 c60971 (show y_in (6 : Int32) (6) (6) from ⟨by decide, by decide⟩)) (by decide) (by decide)
        exact t_k_De_formOfSum_39 q hq
      · refine z_ok_i (fun c60973 => ?_) (fun c60973 => ?_)
        · have z60974 : y_in x0 (7) (7) := z_w (z_eq1 c60973 (show y_in (7 : Int32) (7) (7) from ⟨by decide, by decide⟩)) (by decide) (by decide)
          exact t_k_De_formOfSum_39 q hq
        · have z60975 : y_in x0 (0) (6) := z_w (z_ne2 c60973 hx0 (by decide)) (by decide) (by decide)
          exact z_ok_s (z_w (show y_in (2 : Int32) (2) (2) from ⟨by decide, by decide⟩) (by decide) (by decide))

set_option maxHeartbeats 4000000 in
set_option maxRecDepth 100000 in
theorem t_k_De_formOfSingle_673 (q : z_Sg) (hq : iK q) : z_ok (k_De_formOfSingle_673 q) (fun o : Int32 => y_in o (0) (255)) := by
  unfold k_De_formOfSingle_673
  exact z_ok_s (z_w (show y_in (0 : Int32) (0) (0) from ⟨by decide, by decide⟩) (by decide) (by decide))

set_option maxHeartbeats 4000000 in
set_option maxRecDepth 100000 in
theorem t_k_De_formOfSingle_646 (q : z_Sg) (hq : iK q) : z_ok (k_De_formOfSingle_646 q) (fun o : Int32 => y_in o (0) (255)) := by
  unfold k_De_formOfSingle_646
  exact z_ok_s (z_w (show y_in (2 : Int32) (2) (2) from ⟨by decide, by decide⟩) (by decide) (by decide))

set_option maxHeartbeats 4000000 in
set_option maxRecDepth 100000 in
theorem t_k_De_formOfSingle_651 (q : z_Sg) (hq : iK q) : z_ok (k_De_formOfSingle_651 q) (fun o : Int32 => y_in o (0) (255)) := by
  unfold k_De_formOfSingle_651
  exact z_ok_s (z_w (show y_in (128 : Int32) (128) (128) from ⟨by decide, by decide⟩) (by decide) (by decide))

set_option maxHeartbeats 4000000 in
set_option maxRecDepth 100000 in
theorem t_k_De_formOfSingle_658 (q : z_Sg) (hq : iK q) : z_ok (k_De_formOfSingle_658 q) (fun o : Int32 => y_in o (0) (255)) := by
  unfold k_De_formOfSingle_658
  exact z_ok_s (z_w (show y_in (130 : Int32) (130) (130) from ⟨by decide, by decide⟩) (by decide) (by decide))

set_option maxHeartbeats 4000000 in
set_option maxRecDepth 100000 in
theorem t_k_De_formOfSingle_648 (q : z_Sg) (hq : iK q) : z_ok (k_De_formOfSingle_648 q) (fun o : Int32 => y_in o (0) (255)) := by
  unfold k_De_formOfSingle_648
  exact z_ok_s (z_w (show y_in (8 : Int32) (8) (8) from ⟨by decide, by decide⟩) (by decide) (by decide))

set_option maxHeartbeats 4000000 in
set_option maxRecDepth 100000 in
theorem t_k_De_formOfSingle_655 (q : z_Sg) (hq : iK q) : z_ok (k_De_formOfSingle_655 q) (fun o : Int32 => y_in o (0) (255)) := by
  unfold k_De_formOfSingle_655
  exact z_ok_s (z_w (show y_in (10 : Int32) (10) (10) from ⟨by decide, by decide⟩) (by decide) (by decide))

set_option maxHeartbeats 4000000 in
set_option maxRecDepth 100000 in
theorem t_k_De_formOfSingle_644 (q : z_Sg) (hq : iK q) : z_ok (k_De_formOfSingle_644 q) (fun o : Int32 => y_in o (0) (255)) := by
  unfold k_De_formOfSingle_644
  exact z_ok_s (z_w (show y_in (1 : Int32) (1) (1) from ⟨by decide, by decide⟩) (by decide) (by decide))

set_option maxHeartbeats 4000000 in
set_option maxRecDepth 100000 in
theorem t_k_De_formOfSingle_662 (q : z_Sg) (hq : iK q) : z_ok (k_De_formOfSingle_662 q) (fun o : Int32 => y_in o (0) (255)) := by
  unfold k_De_formOfSingle_662
  exact z_ok_s (z_w (show y_in (4 : Int32) (4) (4) from ⟨by decide, by decide⟩) (by decide) (by decide))

set_option maxHeartbeats 4000000 in
set_option maxRecDepth 100000 in
theorem t_k_De_formOfSingle_667 (q : z_Sg) (hq : iK q) : z_ok (k_De_formOfSingle_667 q) (fun o : Int32 => y_in o (0) (255)) := by
  unfold k_De_formOfSingle_667
  exact z_ok_s (z_w (show y_in (12 : Int32) (12) (12) from ⟨by decide, by decide⟩) (by decide) (by decide))

set_option maxHeartbeats 4000000 in
set_option maxRecDepth 100000 in
theorem t_k_De_formOfSingle_670 (q : z_Sg) (hq : iK q) : z_ok (k_De_formOfSingle_670 q) (fun o : Int32 => y_in o (0) (255)) := by
  unfold k_De_formOfSingle_670
  exact z_ok_s (z_w (show y_in (36 : Int32) (36) (36) from ⟨by decide, by decide⟩) (by decide) (by decide))

set_option maxHeartbeats 4000000 in
set_option maxRecDepth 100000 in
theorem t_f_De_formOfSingle (x0 : Int32) (q : z_Sg) (hx0 : y_in x0 (0) (255)) (hq : iK q) : z_ok (f_De_formOfSingle x0 q) (fun o : Int32 => y_in o (0) (255)) := by
  unfold f_De_formOfSingle
  refine z_ok_i (fun c60976 => ?_) (fun c60976 => ?_)
  · have z60977 : y_in x0 (0) (98) := z_w (z_lt1 c60976 hx0 (show y_in (99 : Int32) (99) (99) from ⟨by decide, by decide⟩)) (by decide) (by decide)
    exact t_k_De_formOfSingle_673 q hq
  · have z60978 : y_in x0 (99) (255) := z_w (z_nlt1 c60976 hx0 (show y_in (99 : Int32) (99) (99) from ⟨by decide, by decide⟩)) (by decide) (by decide)
    refine z_ok_i (fun c60979 => ?_) (fun c60979 => ?_)
    · exact absurd c60979 (z_deadL (show y_in (255 : Int32) (255) (255) from ⟨by decide, by decide⟩) z60978 (by decide))
    · refine z_ok_i (fun c60980 => ?_) (fun c60980 => ?_)
      · have z60981 : y_in x0 (99) (99) := z_w (z_eq1 c60980 (show y_in (99 : Int32) (99) (99) from ⟨by decide, by decide⟩)) (by decide) (by decide)
        exact t_k_De_formOfSingle_646 q hq
      · have z60982 : y_in x0 (100) (255) := z_w (z_ne1 c60980 z60978 (by decide)) (by decide) (by decide)
        refine z_ok_i (fun c60983 => ?_) (fun c60983 => ?_)
        · have z60984 : y_in x0 (100) (100) := z_w (z_eq1 c60983 (show y_in (100 : Int32) (100) (100) from ⟨by decide, by decide⟩)) (by decide) (by decide)
          exact t_k_De_formOfSingle_673 q hq
        · have z60985 : y_in x0 (101) (255) := z_w (z_ne1 c60983 z60982 (by decide)) (by decide) (by decide)
          refine z_ok_i (fun c60986 => ?_) (fun c60986 => ?_)
          · have z60987 : y_in x0 (101) (101) := z_w (z_eq1 c60986 (show y_in (101 : Int32) (101) (101) from ⟨by decide, by decide⟩)) (by decide) (by decide)
            exact t_k_De_formOfSingle_673 q hq
          · have z60988 : y_in x0 (102) (255) := z_w (z_ne1 c60986 z60985 (by decide)) (by decide) (by decide)
            refine z_ok_i (fun c60989 => ?_) (fun c60989 => ?_)
            · have z60990 : y_in x0 (102) (102) := z_w (z_eq1 c60989 (show y_in (102 : Int32) (102) (102) from ⟨by decide, by decide⟩)) (by decide) (by decide)
              exact t_k_De_formOfSingle_673 q hq
            · have z60991 : y_in x0 (103) (255) := z_w (z_ne1 c60989 z60988 (by decide)) (by decide) (by decide)
              refine z_ok_i (fun c60992 => ?_) (fun c60992 => ?_)
              · have z60993 : y_in x0 (103) (103) := z_w (z_eq1 c60992 (show y_in (103 : Int32) (103) (103) from ⟨by decide, by decide⟩)) (by decide) (by decide)
                exact t_k_De_formOfSingle_673 q hq
              · have z60994 : y_in x0 (104) (255) := z_w (z_ne1 c60992 z60991 (by decide)) (by decide) (by decide)
                refine z_ok_i (fun c60995 => ?_) (fun c60995 => ?_)
                · have z60996 : y_in x0 (104) (104) := z_w (z_eq1 c60995 (show y_in (104 : Int32) (104) (104) from ⟨by decide, by decide⟩)) (by decide) (by decide)
                  exact t_k_De_formOfSingle_651 q hq
                · have z60997 : y_in x0 (105) (255) := z_w (z_ne1 c60995 z60994 (by decide)) (by decide) (by decide)
                  refine z_ok_i (fun c60998 => ?_) (fun c60998 => ?_)
                  · have z60999 : y_in x0 (105) (105) := z_w (z_eq1 c60998 (show y_in (105 : Int32) (105) (105) from ⟨by decide, by decide⟩)) (by decide) (by decide)
                    exact t_k_De_formOfSingle_658 q hq
                  · have z61000 : y_in x0 (106) (255) := z_w (z_ne1 c60998 z60997 (by decide)) (by decide) (by decide)
                    refine z_ok_i (fun c61001 => ?_) (fun c61001 => ?_)
                    · have z61002 : y_in x0 (106) (106) := z_w (z_eq1 c61001 (show y_in (106 : Int32) (106) (106) from ⟨by decide, by decide⟩)) (by decide) (by decide)
                      exact t_k_De_formOfSingle_648 q hq
                    · have z61003 : y_in x0 (107) (255) := z_w (z_ne1 c61001 z61000 (by decide)) (by decide) (by decide)
                      refine z_ok_i (fun c61004 => ?_) (fun c61004 => ?_)
                      · have z61005 : y_in x0 (107) (107) := z_w (z_eq1 c61004 (show y_in (107 : Int32) (107) (107) from ⟨by decide, by decide⟩)) (by decide) (by decide)
                        exact t_k_De_formOfSingle_655 q hq
                      · have z61006 : y_in x0 (108) (255) := z_w (z_ne1 c61004 z61003 (by decide)) (by decide) (by decide)
                        refine z_ok_i (fun c61007 => ?_) (fun c61007 => ?_)
                        · have z61008 : y_in x0 (108) (108) := z_w (z_eq1 c61007 (show y_in (108 : Int32) (108) (108) from ⟨by decide, by decide⟩)) (by decide) (by decide)
                          exact t_k_De_formOfSingle_673 q hq
                        · have z61009 : y_in x0 (109) (255) := z_w (z_ne1 c61007 z61006 (by decide)) (by decide) (by decide)
                          refine z_ok_i (fun c61010 => ?_) (fun c61010 => ?_)
                          · have z61011 : y_in x0 (109) (109) := z_w (z_eq1 c61010 (show y_in (109 : Int32) (109) (109) from ⟨by decide, by decide⟩)) (by decide) (by decide)
                            exact t_k_De_formOfSingle_673 q hq
                          · have z61012 : y_in x0 (110) (255) := z_w (z_ne1 c61010 z61009 (by decide)) (by decide) (by decide)
                            refine z_ok_i (fun c61013 => ?_) (fun c61013 => ?_)
                            · have z61014 : y_in x0 (110) (110) := z_w (z_eq1 c61013 (show y_in (110 : Int32) (110) (110) from ⟨by decide, by decide⟩)) (by decide) (by decide)
                              exact t_k_De_formOfSingle_673 q hq
                            · have z61015 : y_in x0 (111) (255) := z_w (z_ne1 c61013 z61012 (by decide)) (by decide) (by decide)
                              refine z_ok_i (fun c61016 => ?_) (fun c61016 => ?_)
                              · have z61017 : y_in x0 (111) (111) := z_w (z_eq1 c61016 (show y_in (111 : Int32) (111) (111) from ⟨by decide, by decide⟩)) (by decide) (by decide)
                                exact t_k_De_formOfSingle_673 q hq
                              · have z61018 : y_in x0 (112) (255) := z_w (z_ne1 c61016 z61015 (by decide)) (by decide) (by decide)
                                refine z_ok_i (fun c61019 => ?_) (fun c61019 => ?_)
                                · have z61020 : y_in x0 (112) (112) := z_w (z_eq1 c61019 (show y_in (112 : Int32) (112) (112) from ⟨by decide, by decide⟩)) (by decide) (by decide)
                                  exact t_k_De_formOfSingle_673 q hq
                                · have z61021 : y_in x0 (113) (255) := z_w (z_ne1 c61019 z61018 (by decide)) (by decide) (by decide)
                                  refine z_ok_i (fun c61022 => ?_) (fun c61022 => ?_)
                                  · have z61023 : y_in x0 (113) (113) := z_w (z_eq1 c61022 (show y_in (113 : Int32) (113) (113) from ⟨by decide, by decide⟩)) (by decide) (by decide)
                                    exact t_k_De_formOfSingle_673 q hq
                                  · have z61024 : y_in x0 (114) (255) := z_w (z_ne1 c61022 z61021 (by decide)) (by decide) (by decide)
                                    refine z_ok_i (fun c61025 => ?_) (fun c61025 => ?_)
                                    · have z61026 : y_in x0 (114) (114) := z_w (z_eq1 c61025 (show y_in (114 : Int32) (114) (114) from ⟨by decide, by decide⟩)) (by decide) (by decide)
                                      exact t_k_De_formOfSingle_673 q hq
                                    · have z61027 : y_in x0 (115) (255) := z_w (z_ne1 c61025 z61024 (by decide)) (by decide) (by decide)
                                      refine z_ok_i (fun c61028 => ?_) (fun c61028 => ?_)
                                      · have z61029 : y_in x0 (115) (115) := z_w (z_eq1 c61028 (show y_in (115 : Int32) (115) (115) from ⟨by decide, by decide⟩)) (by decide) (by decide)
                                        exact t_k_De_formOfSingle_673 q hq
                                      · have z61030 : y_in x0 (116) (255) := z_w (z_ne1 c61028 z61027 (by decide)) (by decide) (by decide)
                                        refine z_ok_i (fun c61031 => ?_) (fun c61031 => ?_)
                                        · have z61032 : y_in x0 (116) (116) := z_w (z_eq1 c61031 (show y_in (116 : Int32) (116) (116) from ⟨by decide, by decide⟩)) (by decide) (by decide)
                                          exact t_k_De_formOfSingle_673 q hq
                                        · have z61033 : y_in x0 (117) (255) := z_w (z_ne1 c61031 z61030 (by decide)) (by decide) (by decide)
                                          refine z_ok_i (fun c61034 => ?_) (fun c61034 => ?_)
                                          · have z61035 : y_in x0 (117) (117) := z_w (z_eq1 c61034 (show y_in (117 : Int32) (117) (117) from ⟨by decide, by decide⟩)) (by decide) (by decide)
                                            exact t_k_De_formOfSingle_673 q hq
                                          · have z61036 : y_in x0 (118) (255) := z_w (z_ne1 c61034 z61033 (by decide)) (by decide) (by decide)
                                            refine z_ok_i (fun c61037 => ?_) (fun c61037 => ?_)
                                            · have z61038 : y_in x0 (118) (118) := z_w (z_eq1 c61037 (show y_in (118 : Int32) (118) (118) from ⟨by decide, by decide⟩)) (by decide) (by decide)
                                              exact t_k_De_formOfSingle_673 q hq
                                            · have z61039 : y_in x0 (119) (255) := z_w (z_ne1 c61037 z61036 (by decide)) (by decide) (by decide)
                                              refine z_ok_i (fun c61040 => ?_) (fun c61040 => ?_)
                                              · have z61041 : y_in x0 (119) (119) := z_w (z_eq1 c61040 (show y_in (119 : Int32) (119) (119) from ⟨by decide, by decide⟩)) (by decide) (by decide)
                                                exact t_k_De_formOfSingle_673 q hq
                                              · have z61042 : y_in x0 (120) (255) := z_w (z_ne1 c61040 z61039 (by decide)) (by decide) (by decide)
                                                refine z_ok_i (fun c61043 => ?_) (fun c61043 => ?_)
                                                · have z61044 : y_in x0 (120) (120) := z_w (z_eq1 c61043 (show y_in (120 : Int32) (120) (120) from ⟨by decide, by decide⟩)) (by decide) (by decide)
                                                  exact t_k_De_formOfSingle_673 q hq
                                                · have z61045 : y_in x0 (121) (255) := z_w (z_ne1 c61043 z61042 (by decide)) (by decide) (by decide)
                                                  refine z_ok_i (fun c61046 => ?_) (fun c61046 => ?_)
                                                  · have z61047 : y_in x0 (121) (121) := z_w (z_eq1 c61046 (show y_in (121 : Int32) (121) (121) from ⟨by decide, by decide⟩)) (by decide) (by decide)
                                                    exact t_k_De_formOfSingle_673 q hq
                                                  · have z61048 : y_in x0 (122) (255) := z_w (z_ne1 c61046 z61045 (by decide)) (by decide) (by decide)
                                                    refine z_ok_i (fun c61049 => ?_) (fun c61049 => ?_)
                                                    · have z61050 : y_in x0 (122) (122) := z_w (z_eq1 c61049 (show y_in (122 : Int32) (122) (122) from ⟨by decide, by decide⟩)) (by decide) (by decide)
                                                      exact t_k_De_formOfSingle_673 q hq
                                                    · have z61051 : y_in x0 (123) (255) := z_w (z_ne1 c61049 z61048 (by decide)) (by decide) (by decide)
                                                      refine z_ok_i (fun c61052 => ?_) (fun c61052 => ?_)
                                                      · have z61053 : y_in x0 (123) (123) := z_w (z_eq1 c61052 (show y_in (123 : Int32) (123) (123) from ⟨by decide, by decide⟩)) (by decide) (by decide)
                                                        exact t_k_De_formOfSingle_673 q hq
                                                      · have z61054 : y_in x0 (124) (255) := z_w (z_ne1 c61052 z61051 (by decide)) (by decide) (by decide)
                                                        refine z_ok_i (fun c61055 => ?_) (fun c61055 => ?_)
                                                        · have z61056 : y_in x0 (124) (124) := z_w (z_eq1 c61055 (show y_in (124 : Int32) (124) (124) from ⟨by decide, by decide⟩)) (by decide) (by decide)
                                                          exact t_k_De_formOfSingle_673 q hq
                                                        · have z61057 : y_in x0 (125) (255) := z_w (z_ne1 c61055 z61054 (by decide)) (by decide) (by decide)
                                                          refine z_ok_i (fun c61058 => ?_) (fun c61058 => ?_)
                                                          · have z61059 : y_in x0 (125) (125) := z_w (z_eq1 c61058 (show y_in (125 : Int32) (125) (125) from ⟨by decide, by decide⟩)) (by decide) (by decide)
                                                            exact t_k_De_formOfSingle_673 q hq
                                                          · have z61060 : y_in x0 (126) (255) := z_w (z_ne1 c61058 z61057 (by decide)) (by decide) (by decide)
                                                            refine z_ok_i (fun c61061 => ?_) (fun c61061 => ?_)
                                                            · have z61062 : y_in x0 (126) (126) := z_w (z_eq1 c61061 (show y_in (126 : Int32) (126) (126) from ⟨by decide, by decide⟩)) (by decide) (by decide)
                                                              exact t_k_De_formOfSingle_673 q hq
                                                            · have z61063 : y_in x0 (127) (255) := z_w (z_ne1 c61061 z61060 (by decide)) (by decide) (by decide)
                                                              refine z_ok_i (fun c61064 => ?_) (fun c61064 => ?_)
                                                              · have z61065 : y_in x0 (127) (127) := z_w (z_eq1 c61064 (show y_in (127 : Int32) (127) (127) from ⟨by decide, by decide⟩)) (by decide) (by decide)
                                                                exact t_k_De_formOfSingle_673 q hq
                                                              · have z61066 : y_in x0 (128) (255) := z_w (z_ne1 c61064 z61063 (by decide)) (by decide) (by decide)
                                                                refine z_ok_i (fun c61067 => ?_) (fun c61067 => ?_)
                                                                · have z61068 : y_in x0 (128) (128) := z_w (z_eq1 c61067 (show y_in (128 : Int32) (128) (128) from ⟨by decide, by decide⟩)) (by decide) (by decide)
                                                                  exact t_k_De_formOfSingle_655 q hq
                                                                · have z61069 : y_in x0 (129) (255) := z_w (z_ne1 c61067 z61066 (by decide)) (by decide) (by decide)
                                                                  refine z_ok_i (fun c61070 => ?_) (fun c61070 => ?_)
                                                                  · have z61071 : y_in x0 (129) (129) := z_w (z_eq1 c61070 (show y_in (129 : Int32) (129) (129) from ⟨by decide, by decide⟩)) (by decide) (by decide)
                                                                    exact t_k_De_formOfSingle_658 q hq
                                                                  · have z61072 : y_in x0 (130) (255) := z_w (z_ne1 c61070 z61069 (by decide)) (by decide) (by decide)
                                                                    refine z_ok_i (fun c61073 => ?_) (fun c61073 => ?_)
                                                                    · have z61074 : y_in x0 (130) (130) := z_w (z_eq1 c61073 (show y_in (130 : Int32) (130) (130) from ⟨by decide, by decide⟩)) (by decide) (by decide)
                                                                      exact t_k_De_formOfSingle_673 q hq
                                                                    · have z61075 : y_in x0 (131) (255) := z_w (z_ne1 c61073 z61072 (by decide)) (by decide) (by decide)
                                                                      refine z_ok_i (fun c61076 => ?_) (fun c61076 => ?_)
                                                                      · have z61077 : y_in x0 (131) (131) := z_w (z_eq1 c61076 (show y_in (131 : Int32) (131) (131) from ⟨by decide, by decide⟩)) (by decide) (by decide)
                                                                        exact t_k_De_formOfSingle_655 q hq
                                                                      · have z61078 : y_in x0 (132) (255) := z_w (z_ne1 c61076 z61075 (by decide)) (by decide) (by decide)
                                                                        refine z_ok_i (fun c61079 => ?_) (fun c61079 => ?_)
                                                                        · have z61080 : y_in x0 (132) (132) := z_w (z_eq1 c61079 (show y_in (132 : Int32) (132) (132) from ⟨by decide, by decide⟩)) (by decide) (by decide)
                                                                          exact t_k_De_formOfSingle_646 q hq
                                                                        · have z61081 : y_in x0 (133) (255) := z_w (z_ne1 c61079 z61078 (by decide)) (by decide) (by decide)
                                                                          refine z_ok_i (fun c61082 => ?_) (fun c61082 => ?_)
                                                                          · have z61083 : y_in x0 (133) (133) := z_w (z_eq1 c61082 (show y_in (133 : Int32) (133) (133) from ⟨by decide, by decide⟩)) (by decide) (by decide)
                                                                            exact t_k_De_formOfSingle_646 q hq
                                                                          · have z61084 : y_in x0 (134) (255) := z_w (z_ne1 c61082 z61081 (by decide)) (by decide) (by decide)
                                                                            refine z_ok_i (fun c61085 => ?_) (fun c61085 => ?_)
                                                                            · have z61086 : y_in x0 (134) (134) := z_w (z_eq1 c61085 (show y_in (134 : Int32) (134) (134) from ⟨by decide, by decide⟩)) (by decide) (by decide)
                                                                              exact t_k_De_formOfSingle_646 q hq
                                                                            · have z61087 : y_in x0 (135) (255) := z_w (z_ne1 c61085 z61084 (by decide)) (by decide) (by decide)
                                                                              refine z_ok_i (fun c61088 => ?_) (fun c61088 => ?_)
                                                                              · have z61089 : y_in x0 (135) (135) := z_w (z_eq1 c61088 (show y_in (135 : Int32) (135) (135) from ⟨by decide, by decide⟩)) (by decide) (by decide)
                                                                                exact t_k_De_formOfSingle_646 q hq
                                                                              · have z61090 : y_in x0 (136) (255) := z_w (z_ne1 c61088 z61087 (by decide)) (by decide) (by decide)
                                                                                refine z_ok_i (fun c61091 => ?_) (fun c61091 => ?_)
                                                                                · have z61092 : y_in x0 (136) (136) := z_w (z_eq1 c61091 (show y_in (136 : Int32) (136) (136) from ⟨by decide, by decide⟩)) (by decide) (by decide)
                                                                                  exact t_k_De_formOfSingle_646 q hq
                                                                                · have z61093 : y_in x0 (137) (255) := z_w (z_ne1 c61091 z61090 (by decide)) (by decide) (by decide)
                                                                                  refine z_ok_i (fun c61094 => ?_) (fun c61094 => ?_)
                                                                                  · have z61095 : y_in x0 (137) (137) := z_w (z_eq1 c61094 (show y_in (137 : Int32) (137) (137) from ⟨by decide, by decide⟩)) (by decide) (by decide)
                                                                                    exact t_k_De_formOfSingle_646 q hq
                                                                                  · have z61096 : y_in x0 (138) (255) := z_w (z_ne1 c61094 z61093 (by decide)) (by decide) (by decide)
                                                                                    refine z_ok_i (fun c61097 => ?_) (fun c61097 => ?_)
                                                                                    · have z61098 : y_in x0 (138) (138) := z_w (z_eq1 c61097 (show y_in (138 : Int32) (138) (138) from ⟨by decide, by decide⟩)) (by decide) (by decide)
                                                                                      exact t_k_De_formOfSingle_646 q hq
                                                                                    · have z61099 : y_in x0 (139) (255) := z_w (z_ne1 c61097 z61096 (by decide)) (by decide) (by decide)
                                                                                      refine z_ok_i (fun c61100 => ?_) (fun c61100 => ?_)
                                                                                      · have z61101 : y_in x0 (139) (139) := z_w (z_eq1 c61100 (show y_in (139 : Int32) (139) (139) from ⟨by decide, by decide⟩)) (by decide) (by decide)
                                                                                        exact t_k_De_formOfSingle_646 q hq
                                                                                      · have z61102 : y_in x0 (140) (255) := z_w (z_ne1 c61100 z61099 (by decide)) (by decide) (by decide)
                                                                                        refine z_ok_i (fun c61103 => ?_) (fun c61103 => ?_)
                                                                                        · have z61104 : y_in x0 (140) (140) := z_w (z_eq1 c61103 (show y_in (140 : Int32) (140) (140) from ⟨by decide, by decide⟩)) (by decide) (by decide)
                                                                                          exact t_k_De_formOfSingle_673 q hq
                                                                                        · have z61105 : y_in x0 (141) (255) := z_w (z_ne1 c61103 z61102 (by decide)) (by decide) (by decide)
                                                                                          refine z_ok_i (fun c61106 => ?_) (fun c61106 => ?_)
                                                                                          · have z61107 : y_in x0 (141) (141) := z_w (z_eq1 c61106 (show y_in (141 : Int32) (141) (141) from ⟨by decide, by decide⟩)) (by decide) (by decide)
                                                                                            exact t_k_De_formOfSingle_646 q hq
                                                                                          · have z61108 : y_in x0 (142) (255) := z_w (z_ne1 c61106 z61105 (by decide)) (by decide) (by decide)
                                                                                            refine z_ok_i (fun c61109 => ?_) (fun c61109 => ?_)
                                                                                            · have z61110 : y_in x0 (142) (142) := z_w (z_eq1 c61109 (show y_in (142 : Int32) (142) (142) from ⟨by decide, by decide⟩)) (by decide) (by decide)
                                                                                              exact t_k_De_formOfSingle_673 q hq
                                                                                            · have z61111 : y_in x0 (143) (255) := z_w (z_ne1 c61109 z61108 (by decide)) (by decide) (by decide)
                                                                                              refine z_ok_i (fun c61112 => ?_) (fun c61112 => ?_)
                                                                                              · have z61113 : y_in x0 (143) (143) := z_w (z_eq1 c61112 (show y_in (143 : Int32) (143) (143) from ⟨by decide, by decide⟩)) (by decide) (by decide)
                                                                                                exact t_k_De_formOfSingle_646 q hq
                                                                                              · have z61114 : y_in x0 (144) (255) := z_w (z_ne1 c61112 z61111 (by decide)) (by decide) (by decide)
                                                                                                refine z_ok_i (fun c61115 => ?_) (fun c61115 => ?_)
                                                                                                · have z61116 : y_in x0 (144) (144) := z_w (z_eq1 c61115 (show y_in (144 : Int32) (144) (144) from ⟨by decide, by decide⟩)) (by decide) (by decide)
                                                                                                  exact t_k_De_formOfSingle_673 q hq
                                                                                                · have z61117 : y_in x0 (145) (255) := z_w (z_ne1 c61115 z61114 (by decide)) (by decide) (by decide)
                                                                                                  refine z_ok_i (fun c61118 => ?_) (fun c61118 => ?_)
                                                                                                  · have z61119 : y_in x0 (145) (145) := z_w (z_eq1 c61118 (show y_in (145 : Int32) (145) (145) from ⟨by decide, by decide⟩)) (by decide) (by decide)
                                                                                                    exact t_k_De_formOfSingle_673 q hq
                                                                                                  · have z61120 : y_in x0 (146) (255) := z_w (z_ne1 c61118 z61117 (by decide)) (by decide) (by decide)
                                                                                                    refine z_ok_i (fun c61121 => ?_) (fun c61121 => ?_)
                                                                                                    · have z61122 : y_in x0 (146) (146) := z_w (z_eq1 c61121 (show y_in (146 : Int32) (146) (146) from ⟨by decide, by decide⟩)) (by decide) (by decide)
                                                                                                      exact t_k_De_formOfSingle_673 q hq
                                                                                                    · have z61123 : y_in x0 (147) (255) := z_w (z_ne1 c61121 z61120 (by decide)) (by decide) (by decide)
                                                                                                      refine z_ok_i (fun c61124 => ?_) (fun c61124 => ?_)
                                                                                                      · have z61125 : y_in x0 (147) (147) := z_w (z_eq1 c61124 (show y_in (147 : Int32) (147) (147) from ⟨by decide, by decide⟩)) (by decide) (by decide)
                                                                                                        exact t_k_De_formOfSingle_673 q hq
                                                                                                      · have z61126 : y_in x0 (148) (255) := z_w (z_ne1 c61124 z61123 (by decide)) (by decide) (by decide)
                                                                                                        refine z_ok_i (fun c61127 => ?_) (fun c61127 => ?_)
                                                                                                        · have z61128 : y_in x0 (148) (148) := z_w (z_eq1 c61127 (show y_in (148 : Int32) (148) (148) from ⟨by decide, by decide⟩)) (by decide) (by decide)
                                                                                                          exact t_k_De_formOfSingle_673 q hq
                                                                                                        · have z61129 : y_in x0 (149) (255) := z_w (z_ne1 c61127 z61126 (by decide)) (by decide) (by decide)
                                                                                                          refine z_ok_i (fun c61130 => ?_) (fun c61130 => ?_)
                                                                                                          · have z61131 : y_in x0 (149) (149) := z_w (z_eq1 c61130 (show y_in (149 : Int32) (149) (149) from ⟨by decide, by decide⟩)) (by decide) (by decide)
                                                                                                            exact t_k_De_formOfSingle_673 q hq
                                                                                                          · have z61132 : y_in x0 (150) (255) := z_w (z_ne1 c61130 z61129 (by decide)) (by decide) (by decide)
                                                                                                            refine z_ok_i (fun c61133 => ?_) (fun c61133 => ?_)
                                                                                                            · have z61134 : y_in x0 (150) (150) := z_w (z_eq1 c61133 (show y_in (150 : Int32) (150) (150) from ⟨by decide, by decide⟩)) (by decide) (by decide)
                                                                                                              exact t_k_De_formOfSingle_673 q hq
                                                                                                            · have z61135 : y_in x0 (151) (255) := z_w (z_ne1 c61133 z61132 (by decide)) (by decide) (by decide)
                                                                                                              refine z_ok_i (fun c61136 => ?_) (fun c61136 => ?_)
                                                                                                              · have z61137 : y_in x0 (151) (151) := z_w (z_eq1 c61136 (show y_in (151 : Int32) (151) (151) from ⟨by decide, by decide⟩)) (by decide) (by decide)
                                                                                                                exact t_k_De_formOfSingle_673 q hq
                                                                                                              · have z61138 : y_in x0 (152) (255) := z_w (z_ne1 c61136 z61135 (by decide)) (by decide) (by decide)
                                                                                                                refine z_ok_i (fun c61139 => ?_) (fun c61139 => ?_)
                                                                                                                · have z61140 : y_in x0 (152) (152) := z_w (z_eq1 c61139 (show y_in (152 : Int32) (152) (152) from ⟨by decide, by decide⟩)) (by decide) (by decide)
                                                                                                                  exact t_k_De_formOfSingle_644 q hq
                                                                                                                · have z61141 : y_in x0 (153) (255) := z_w (z_ne1 c61139 z61138 (by decide)) (by decide) (by decide)
                                                                                                                  refine z_ok_i (fun c61142 => ?_) (fun c61142 => ?_)
                                                                                                                  · have z61143 : y_in x0 (153) (153) := z_w (z_eq1 c61142 (show y_in (153 : Int32) (153) (153) from ⟨by decide, by decide⟩)) (by decide) (by decide)
                                                                                                                    exact t_k_De_formOfSingle_644 q hq
                                                                                                                  · have z61144 : y_in x0 (154) (255) := z_w (z_ne1 c61142 z61141 (by decide)) (by decide) (by decide)
                                                                                                                    refine z_ok_i (fun c61145 => ?_) (fun c61145 => ?_)
                                                                                                                    · have z61146 : y_in x0 (154) (154) := z_w (z_eq1 c61145 (show y_in (154 : Int32) (154) (154) from ⟨by decide, by decide⟩)) (by decide) (by decide)
                                                                                                                      exact t_k_De_formOfSingle_673 q hq
                                                                                                                    · have z61147 : y_in x0 (155) (255) := z_w (z_ne1 c61145 z61144 (by decide)) (by decide) (by decide)
                                                                                                                      refine z_ok_i (fun c61148 => ?_) (fun c61148 => ?_)
                                                                                                                      · have z61149 : y_in x0 (155) (155) := z_w (z_eq1 c61148 (show y_in (155 : Int32) (155) (155) from ⟨by decide, by decide⟩)) (by decide) (by decide)
                                                                                                                        exact t_k_De_formOfSingle_673 q hq
                                                                                                                      · have z61150 : y_in x0 (156) (255) := z_w (z_ne1 c61148 z61147 (by decide)) (by decide) (by decide)
                                                                                                                        refine z_ok_i (fun c61151 => ?_) (fun c61151 => ?_)
                                                                                                                        · have z61152 : y_in x0 (156) (156) := z_w (z_eq1 c61151 (show y_in (156 : Int32) (156) (156) from ⟨by decide, by decide⟩)) (by decide) (by decide)
                                                                                                                          exact t_k_De_formOfSingle_644 q hq
                                                                                                                        · have z61153 : y_in x0 (157) (255) := z_w (z_ne1 c61151 z61150 (by decide)) (by decide) (by decide)
                                                                                                                          refine z_ok_i (fun c61154 => ?_) (fun c61154 => ?_)
                                                                                                                          · have z61155 : y_in x0 (157) (157) := z_w (z_eq1 c61154 (show y_in (157 : Int32) (157) (157) from ⟨by decide, by decide⟩)) (by decide) (by decide)
                                                                                                                            exact t_k_De_formOfSingle_644 q hq
                                                                                                                          · have z61156 : y_in x0 (158) (255) := z_w (z_ne1 c61154 z61153 (by decide)) (by decide) (by decide)
                                                                                                                            refine z_ok_i (fun c61157 => ?_) (fun c61157 => ?_)
                                                                                                                            · have z61158 : y_in x0 (158) (158) := z_w (z_eq1 c61157 (show y_in (158 : Int32) (158) (158) from ⟨by decide, by decide⟩)) (by decide) (by decide)
                                                                                                                              exact t_k_De_formOfSingle_673 q hq
                                                                                                                            · have z61159 : y_in x0 (159) (255) := z_w (z_ne1 c61157 z61156 (by decide)) (by decide) (by decide)
                                                                                                                              refine z_ok_i (fun c61160 => ?_) (fun c61160 => ?_)
                                                                                                                              · have z61161 : y_in x0 (159) (159) := z_w (z_eq1 c61160 (show y_in (159 : Int32) (159) (159) from ⟨by decide, by decide⟩)) (by decide) (by decide)
                                                                                                                                exact t_k_De_formOfSingle_673 q hq
                                                                                                                              · have z61162 : y_in x0 (160) (255) := z_w (z_ne1 c61160 z61159 (by decide)) (by decide) (by decide)
                                                                                                                                refine z_ok_i (fun c61163 => ?_) (fun c61163 => ?_)
                                                                                                                                · have z61164 : y_in x0 (160) (160) := z_w (z_eq1 c61163 (show y_in (160 : Int32) (160) (160) from ⟨by decide, by decide⟩)) (by decide) (by decide)
                                                                                                                                  exact t_k_De_formOfSingle_673 q hq
                                                                                                                                · have z61165 : y_in x0 (161) (255) := z_w (z_ne1 c61163 z61162 (by decide)) (by decide) (by decide)
                                                                                                                                  refine z_ok_i (fun c61166 => ?_) (fun c61166 => ?_)
                                                                                                                                  · have z61167 : y_in x0 (161) (161) := z_w (z_eq1 c61166 (show y_in (161 : Int32) (161) (161) from ⟨by decide, by decide⟩)) (by decide) (by decide)
                                                                                                                                    exact t_k_De_formOfSingle_673 q hq
                                                                                                                                  · have z61168 : y_in x0 (162) (255) := z_w (z_ne1 c61166 z61165 (by decide)) (by decide) (by decide)
                                                                                                                                    refine z_ok_i (fun c61169 => ?_) (fun c61169 => ?_)
                                                                                                                                    · have z61170 : y_in x0 (162) (162) := z_w (z_eq1 c61169 (show y_in (162 : Int32) (162) (162) from ⟨by decide, by decide⟩)) (by decide) (by decide)
                                                                                                                                      exact t_k_De_formOfSingle_673 q hq
                                                                                                                                    · have z61171 : y_in x0 (163) (255) := z_w (z_ne1 c61169 z61168 (by decide)) (by decide) (by decide)
                                                                                                                                      refine z_ok_i (fun c61172 => ?_) (fun c61172 => ?_)
                                                                                                                                      · have z61173 : y_in x0 (163) (163) := z_w (z_eq1 c61172 (show y_in (163 : Int32) (163) (163) from ⟨by decide, by decide⟩)) (by decide) (by decide)
                                                                                                                                        exact t_k_De_formOfSingle_673 q hq
                                                                                                                                      · have z61174 : y_in x0 (164) (255) := z_w (z_ne1 c61172 z61171 (by decide)) (by decide) (by decide)
                                                                                                                                        refine z_ok_i (fun c61175 => ?_) (fun c61175 => ?_)
                                                                                                                                        · have z61176 : y_in x0 (164) (164) := z_w (z_eq1 c61175 (show y_in (164 : Int32) (164) (164) from ⟨by decide, by decide⟩)) (by decide) (by decide)
                                                                                                                                          exact t_k_De_formOfSingle_644 q hq
                                                                                                                                        · have z61177 : y_in x0 (165) (255) := z_w (z_ne1 c61175 z61174 (by decide)) (by decide) (by decide)
                                                                                                                                          refine z_ok_i (fun c61178 => ?_) (fun c61178 => ?_)
                                                                                                                                          · have z61179 : y_in x0 (165) (165) := z_w (z_eq1 c61178 (show y_in (165 : Int32) (165) (165) from ⟨by decide, by decide⟩)) (by decide) (by decide)
                                                                                                                                            exact t_k_De_formOfSingle_644 q hq
                                                                                                                                          · have z61180 : y_in x0 (166) (255) := z_w (z_ne1 c61178 z61177 (by decide)) (by decide) (by decide)
                                                                                                                                            refine z_ok_i (fun c61181 => ?_) (fun c61181 => ?_)
                                                                                                                                            · have z61182 : y_in x0 (166) (166) := z_w (z_eq1 c61181 (show y_in (166 : Int32) (166) (166) from ⟨by decide, by decide⟩)) (by decide) (by decide)
                                                                                                                                              exact t_k_De_formOfSingle_644 q hq
                                                                                                                                            · have z61183 : y_in x0 (167) (255) := z_w (z_ne1 c61181 z61180 (by decide)) (by decide) (by decide)
                                                                                                                                              refine z_ok_i (fun c61184 => ?_) (fun c61184 => ?_)
                                                                                                                                              · have z61185 : y_in x0 (167) (167) := z_w (z_eq1 c61184 (show y_in (167 : Int32) (167) (167) from ⟨by decide, by decide⟩)) (by decide) (by decide)
                                                                                                                                                exact t_k_De_formOfSingle_644 q hq
                                                                                                                                              · have z61186 : y_in x0 (168) (255) := z_w (z_ne1 c61184 z61183 (by decide)) (by decide) (by decide)
                                                                                                                                                refine z_ok_i (fun c61187 => ?_) (fun c61187 => ?_)
                                                                                                                                                · have z61188 : y_in x0 (168) (168) := z_w (z_eq1 c61187 (show y_in (168 : Int32) (168) (168) from ⟨by decide, by decide⟩)) (by decide) (by decide)
                                                                                                                                                  exact t_k_De_formOfSingle_648 q hq
                                                                                                                                                · have z61189 : y_in x0 (169) (255) := z_w (z_ne1 c61187 z61186 (by decide)) (by decide) (by decide)
                                                                                                                                                  refine z_ok_i (fun c61190 => ?_) (fun c61190 => ?_)
                                                                                                                                                  · have z61191 : y_in x0 (169) (169) := z_w (z_eq1 c61190 (show y_in (169 : Int32) (169) (169) from ⟨by decide, by decide⟩)) (by decide) (by decide)
                                                                                                                                                    exact t_k_De_formOfSingle_651 q hq
                                                                                                                                                  · have z61192 : y_in x0 (170) (255) := z_w (z_ne1 c61190 z61189 (by decide)) (by decide) (by decide)
                                                                                                                                                    refine z_ok_i (fun c61193 => ?_) (fun c61193 => ?_)
                                                                                                                                                    · have z61194 : y_in x0 (170) (170) := z_w (z_eq1 c61193 (show y_in (170 : Int32) (170) (170) from ⟨by decide, by decide⟩)) (by decide) (by decide)
                                                                                                                                                      exact t_k_De_formOfSingle_644 q hq
                                                                                                                                                    · have z61195 : y_in x0 (171) (255) := z_w (z_ne1 c61193 z61192 (by decide)) (by decide) (by decide)
                                                                                                                                                      refine z_ok_i (fun c61196 => ?_) (fun c61196 => ?_)
                                                                                                                                                      · have z61197 : y_in x0 (171) (171) := z_w (z_eq1 c61196 (show y_in (171 : Int32) (171) (171) from ⟨by decide, by decide⟩)) (by decide) (by decide)
                                                                                                                                                        exact t_k_De_formOfSingle_644 q hq
                                                                                                                                                      · have z61198 : y_in x0 (172) (255) := z_w (z_ne1 c61196 z61195 (by decide)) (by decide) (by decide)
                                                                                                                                                        refine z_ok_i (fun c61199 => ?_) (fun c61199 => ?_)
                                                                                                                                                        · have z61200 : y_in x0 (172) (172) := z_w (z_eq1 c61199 (show y_in (172 : Int32) (172) (172) from ⟨by decide, by decide⟩)) (by decide) (by decide)
                                                                                                                                                          exact t_k_De_formOfSingle_644 q hq
                                                                                                                                                        · have z61201 : y_in x0 (173) (255) := z_w (z_ne1 c61199 z61198 (by decide)) (by decide) (by decide)
                                                                                                                                                          refine z_ok_i (fun c61202 => ?_) (fun c61202 => ?_)
                                                                                                                                                          · have z61203 : y_in x0 (173) (173) := z_w (z_eq1 c61202 (show y_in (173 : Int32) (173) (173) from ⟨by decide, by decide⟩)) (by decide) (by decide)
                                                                                                                                                            exact t_k_De_formOfSingle_644 q hq
                                                                                                                                                          · have z61204 : y_in x0 (174) (255) := z_w (z_ne1 c61202 z61201 (by decide)) (by decide) (by decide)
                                                                                                                                                            refine z_ok_i (fun c61205 => ?_) (fun c61205 => ?_)
                                                                                                                                                            · have z61206 : y_in x0 (174) (174) := z_w (z_eq1 c61205 (show y_in (174 : Int32) (174) (174) from ⟨by decide, by decide⟩)) (by decide) (by decide)
                                                                                                                                                              exact t_k_De_formOfSingle_644 q hq
                                                                                                                                                            · have z61207 : y_in x0 (175) (255) := z_w (z_ne1 c61205 z61204 (by decide)) (by decide) (by decide)
                                                                                                                                                              refine z_ok_i (fun c61208 => ?_) (fun c61208 => ?_)
                                                                                                                                                              · have z61209 : y_in x0 (175) (175) := z_w (z_eq1 c61208 (show y_in (175 : Int32) (175) (175) from ⟨by decide, by decide⟩)) (by decide) (by decide)
                                                                                                                                                                exact t_k_De_formOfSingle_644 q hq
                                                                                                                                                              · have z61210 : y_in x0 (176) (255) := z_w (z_ne1 c61208 z61207 (by decide)) (by decide) (by decide)
                                                                                                                                                                refine z_ok_i (fun c61211 => ?_) (fun c61211 => ?_)
                                                                                                                                                                · have z61212 : y_in x0 (176) (176) := z_w (z_eq1 c61211 (show y_in (176 : Int32) (176) (176) from ⟨by decide, by decide⟩)) (by decide) (by decide)
                                                                                                                                                                  exact t_k_De_formOfSingle_673 q hq
                                                                                                                                                                · have z61213 : y_in x0 (177) (255) := z_w (z_ne1 c61211 z61210 (by decide)) (by decide) (by decide)
                                                                                                                                                                  refine z_ok_i (fun c61214 => ?_) (fun c61214 => ?_)
                                                                                                                                                                  · have z61215 : y_in x0 (177) (177) := z_w (z_eq1 c61214 (show y_in (177 : Int32) (177) (177) from ⟨by decide, by decide⟩)) (by decide) (by decide)
                                                                                                                                                                    exact t_k_De_formOfSingle_673 q hq
                                                                                                                                                                  · have z61216 : y_in x0 (178) (255) := z_w (z_ne1 c61214 z61213 (by decide)) (by decide) (by decide)
                                                                                                                                                                    refine z_ok_i (fun c61217 => ?_) (fun c61217 => ?_)
                                                                                                                                                                    · have z61218 : y_in x0 (178) (178) := z_w (z_eq1 c61217 (show y_in (178 : Int32) (178) (178) from ⟨by decide, by decide⟩)) (by decide) (by decide)
                                                                                                                                                                      exact t_k_De_formOfSingle_673 q hq
                                                                                                                                                                    · have z61219 : y_in x0 (179) (255) := z_w (z_ne1 c61217 z61216 (by decide)) (by decide) (by decide)
                                                                                                                                                                      refine z_ok_i (fun c61220 => ?_) (fun c61220 => ?_)
                                                                                                                                                                      · have z61221 : y_in x0 (179) (179) := z_w (z_eq1 c61220 (show y_in (179 : Int32) (179) (179) from ⟨by decide, by decide⟩)) (by decide) (by decide)
                                                                                                                                                                        exact t_k_De_formOfSingle_673 q hq
                                                                                                                                                                      · have z61222 : y_in x0 (180) (255) := z_w (z_ne1 c61220 z61219 (by decide)) (by decide) (by decide)
                                                                                                                                                                        refine z_ok_i (fun c61223 => ?_) (fun c61223 => ?_)
                                                                                                                                                                        · have z61224 : y_in x0 (180) (180) := z_w (z_eq1 c61223 (show y_in (180 : Int32) (180) (180) from ⟨by decide, by decide⟩)) (by decide) (by decide)
                                                                                                                                                                          exact t_k_De_formOfSingle_673 q hq
                                                                                                                                                                        · have z61225 : y_in x0 (181) (255) := z_w (z_ne1 c61223 z61222 (by decide)) (by decide) (by decide)
                                                                                                                                                                          refine z_ok_i (fun c61226 => ?_) (fun c61226 => ?_)
                                                                                                                                                                          · have z61227 : y_in x0 (181) (181) := z_w (z_eq1 c61226 (show y_in (181 : Int32) (181) (181) from ⟨by decide, by decide⟩)) (by decide) (by decide)
                                                                                                                                                                            exact t_k_De_formOfSingle_673 q hq
                                                                                                                                                                          · have z61228 : y_in x0 (182) (255) := z_w (z_ne1 c61226 z61225 (by decide)) (by decide) (by decide)
                                                                                                                                                                            refine z_ok_i (fun c61229 => ?_) (fun c61229 => ?_)
                                                                                                                                                                            · have z61230 : y_in x0 (182) (182) := z_w (z_eq1 c61229 (show y_in (182 : Int32) (182) (182) from ⟨by decide, by decide⟩)) (by decide) (by decide)
                                                                                                                                                                              exact t_k_De_formOfSingle_673 q hq
                                                                                                                                                                            · have z61231 : y_in x0 (183) (255) := z_w (z_ne1 c61229 z61228 (by decide)) (by decide) (by decide)
                                                                                                                                                                              refine z_ok_i (fun c61232 => ?_) (fun c61232 => ?_)
                                                                                                                                                                              · have z61233 : y_in x0 (183) (183) := z_w (z_eq1 c61232 (show y_in (183 : Int32) (183) (183) from ⟨by decide, by decide⟩)) (by decide) (by decide)
                                                                                                                                                                                exact t_k_De_formOfSingle_673 q hq
                                                                                                                                                                              · have z61234 : y_in x0 (184) (255) := z_w (z_ne1 c61232 z61231 (by decide)) (by decide) (by decide)
                                                                                                                                                                                refine z_ok_i (fun c61235 => ?_) (fun c61235 => ?_)
                                                                                                                                                                                · have z61236 : y_in x0 (184) (184) := z_w (z_eq1 c61235 (show y_in (184 : Int32) (184) (184) from ⟨by decide, by decide⟩)) (by decide) (by decide)
                                                                                                                                                                                  exact t_k_De_formOfSingle_673 q hq
                                                                                                                                                                                · have z61237 : y_in x0 (185) (255) := z_w (z_ne1 c61235 z61234 (by decide)) (by decide) (by decide)
                                                                                                                                                                                  refine z_ok_i (fun c61238 => ?_) (fun c61238 => ?_)
                                                                                                                                                                                  · have z61239 : y_in x0 (185) (185) := z_w (z_eq1 c61238 (show y_in (185 : Int32) (185) (185) from ⟨by decide, by decide⟩)) (by decide) (by decide)
                                                                                                                                                                                    exact t_k_De_formOfSingle_673 q hq
                                                                                                                                                                                  · have z61240 : y_in x0 (186) (255) := z_w (z_ne1 c61238 z61237 (by decide)) (by decide) (by decide)
                                                                                                                                                                                    refine z_ok_i (fun c61241 => ?_) (fun c61241 => ?_)
                                                                                                                                                                                    · have z61242 : y_in x0 (186) (186) := z_w (z_eq1 c61241 (show y_in (186 : Int32) (186) (186) from ⟨by decide, by decide⟩)) (by decide) (by decide)
                                                                                                                                                                                      exact t_k_De_formOfSingle_673 q hq
                                                                                                                                                                                    · have z61243 : y_in x0 (187) (255) := z_w (z_ne1 c61241 z61240 (by decide)) (by decide) (by decide)
                                                                                                                                                                                      refine z_ok_i (fun c61244 => ?_) (fun c61244 => ?_)
                                                                                                                                                                                      · have z61245 : y_in x0 (187) (187) := z_w (z_eq1 c61244 (show y_in (187 : Int32) (187) (187) from ⟨by decide, by decide⟩)) (by decide) (by decide)
                                                                                                                                                                                        exact t_k_De_formOfSingle_673 q hq
                                                                                                                                                                                      · have z61246 : y_in x0 (188) (255) := z_w (z_ne1 c61244 z61243 (by decide)) (by decide) (by decide)
                                                                                                                                                                                        refine z_ok_i (fun c61247 => ?_) (fun c61247 => ?_)
                                                                                                                                                                                        · have z61248 : y_in x0 (188) (188) := z_w (z_eq1 c61247 (show y_in (188 : Int32) (188) (188) from ⟨by decide, by decide⟩)) (by decide) (by decide)
                                                                                                                                                                                          exact t_k_De_formOfSingle_673 q hq
                                                                                                                                                                                        · have z61249 : y_in x0 (189) (255) := z_w (z_ne1 c61247 z61246 (by decide)) (by decide) (by decide)
                                                                                                                                                                                          refine z_ok_i (fun c61250 => ?_) (fun c61250 => ?_)
                                                                                                                                                                                          · have z61251 : y_in x0 (189) (189) := z_w (z_eq1 c61250 (show y_in (189 : Int32) (189) (189) from ⟨by decide, by decide⟩)) (by decide) (by decide)
                                                                                                                                                                                            exact t_k_De_formOfSingle_673 q hq
                                                                                                                                                                                          · have z61252 : y_in x0 (190) (255) := z_w (z_ne1 c61250 z61249 (by decide)) (by decide) (by decide)
                                                                                                                                                                                            refine z_ok_i (fun c61253 => ?_) (fun c61253 => ?_)
                                                                                                                                                                                            · have z61254 : y_in x0 (190) (190) := z_w (z_eq1 c61253 (show y_in (190 : Int32) (190) (190) from ⟨by decide, by decide⟩)) (by decide) (by decide)
                                                                                                                                                                                              exact t_k_De_formOfSingle_673 q hq
                                                                                                                                                                                            · have z61255 : y_in x0 (191) (255) := z_w (z_ne1 c61253 z61252 (by decide)) (by decide) (by decide)
                                                                                                                                                                                              refine z_ok_i (fun c61256 => ?_) (fun c61256 => ?_)
                                                                                                                                                                                              · have z61257 : y_in x0 (191) (191) := z_w (z_eq1 c61256 (show y_in (191 : Int32) (191) (191) from ⟨by decide, by decide⟩)) (by decide) (by decide)
                                                                                                                                                                                                exact t_k_De_formOfSingle_673 q hq
                                                                                                                                                                                              · have z61258 : y_in x0 (192) (255) := z_w (z_ne1 c61256 z61255 (by decide)) (by decide) (by decide)
                                                                                                                                                                                                refine z_ok_i (fun c61259 => ?_) (fun c61259 => ?_)
                                                                                                                                                                                                · have z61260 : y_in x0 (192) (192) := z_w (z_eq1 c61259 (show y_in (192 : Int32) (192) (192) from ⟨by decide, by decide⟩)) (by decide) (by decide)
                                                                                                                                                                                                  exact t_k_De_formOfSingle_655 q hq
                                                                                                                                                                                                · have z61261 : y_in x0 (193) (255) := z_w (z_ne1 c61259 z61258 (by decide)) (by decide) (by decide)
                                                                                                                                                                                                  refine z_ok_i (fun c61262 => ?_) (fun c61262 => ?_)
                                                                                                                                                                                                  · have z61263 : y_in x0 (193) (193) := z_w (z_eq1 c61262 (show y_in (193 : Int32) (193) (193) from ⟨by decide, by decide⟩)) (by decide) (by decide)
                                                                                                                                                                                                    exact t_k_De_formOfSingle_655 q hq
                                                                                                                                                                                                  · have z61264 : y_in x0 (194) (255) := z_w (z_ne1 c61262 z61261 (by decide)) (by decide) (by decide)
                                                                                                                                                                                                    refine z_ok_i (fun c61265 => ?_) (fun c61265 => ?_)
                                                                                                                                                                                                    · have z61266 : y_in x0 (194) (194) := z_w (z_eq1 c61265 (show y_in (194 : Int32) (194) (194) from ⟨by decide, by decide⟩)) (by decide) (by decide)
                                                                                                                                                                                                      exact z_ok_s (z_w (show y_in (20 : Int32) (20) (20) from ⟨by decide, by decide⟩) (by decide) (by decide))
                                                                                                                                                                                                    · have z61267 : y_in x0 (195) (255) := z_w (z_ne1 c61265 z61264 (by decide)) (by decide) (by decide)
                                                                                                                                                                                                      refine z_ok_i (fun c61268 => ?_) (fun c61268 => ?_)
                                                                                                                                                                                                      · have z61269 : y_in x0 (195) (195) := z_w (z_eq1 c61268 (show y_in (195 : Int32) (195) (195) from ⟨by decide, by decide⟩)) (by decide) (by decide)
                                                                                                                                                                                                        exact t_k_De_formOfSingle_662 q hq
                                                                                                                                                                                                      · have z61270 : y_in x0 (196) (255) := z_w (z_ne1 c61268 z61267 (by decide)) (by decide) (by decide)
                                                                                                                                                                                                        refine z_ok_i (fun c61271 => ?_) (fun c61271 => ?_)
                                                                                                                                                                                                        · have z61272 : y_in x0 (196) (196) := z_w (z_eq1 c61271 (show y_in (196 : Int32) (196) (196) from ⟨by decide, by decide⟩)) (by decide) (by decide)
                                                                                                                                                                                                          exact t_k_De_formOfSingle_673 q hq
                                                                                                                                                                                                        · have z61273 : y_in x0 (197) (255) := z_w (z_ne1 c61271 z61270 (by decide)) (by decide) (by decide)
                                                                                                                                                                                                          refine z_ok_i (fun c61274 => ?_) (fun c61274 => ?_)
                                                                                                                                                                                                          · have z61275 : y_in x0 (197) (197) := z_w (z_eq1 c61274 (show y_in (197 : Int32) (197) (197) from ⟨by decide, by decide⟩)) (by decide) (by decide)
                                                                                                                                                                                                            exact t_k_De_formOfSingle_673 q hq
                                                                                                                                                                                                          · have z61276 : y_in x0 (198) (255) := z_w (z_ne1 c61274 z61273 (by decide)) (by decide) (by decide)
                                                                                                                                                                                                            refine z_ok_i (fun c61277 => ?_) (fun c61277 => ?_)
                                                                                                                                                                                                            · have z61278 : y_in x0 (198) (198) := z_w (z_eq1 c61277 (show y_in (198 : Int32) (198) (198) from ⟨by decide, by decide⟩)) (by decide) (by decide)
                                                                                                                                                                                                              exact t_k_De_formOfSingle_655 q hq
                                                                                                                                                                                                            · have z61279 : y_in x0 (199) (255) := z_w (z_ne1 c61277 z61276 (by decide)) (by decide) (by decide)
                                                                                                                                                                                                              refine z_ok_i (fun c61280 => ?_) (fun c61280 => ?_)
                                                                                                                                                                                                              · have z61281 : y_in x0 (199) (199) := z_w (z_eq1 c61280 (show y_in (199 : Int32) (199) (199) from ⟨by decide, by decide⟩)) (by decide) (by decide)
                                                                                                                                                                                                                exact t_k_De_formOfSingle_658 q hq
                                                                                                                                                                                                              · have z61282 : y_in x0 (200) (255) := z_w (z_ne1 c61280 z61279 (by decide)) (by decide) (by decide)
                                                                                                                                                                                                                refine z_ok_i (fun c61283 => ?_) (fun c61283 => ?_)
                                                                                                                                                                                                                · have z61284 : y_in x0 (200) (200) := z_w (z_eq1 c61283 (show y_in (200 : Int32) (200) (200) from ⟨by decide, by decide⟩)) (by decide) (by decide)
                                                                                                                                                                                                                  exact t_k_De_formOfSingle_673 q hq
                                                                                                                                                                                                                · have z61285 : y_in x0 (201) (255) := z_w (z_ne1 c61283 z61282 (by decide)) (by decide) (by decide)
                                                                                                                                                                                                                  refine z_ok_i (fun c61286 => ?_) (fun c61286 => ?_)
                                                                                                                                                                                                                  · have z61287 : y_in x0 (201) (201) := z_w (z_eq1 c61286 (show y_in (201 : Int32) (201) (201) from ⟨by decide, by decide⟩)) (by decide) (by decide)
                                                                                                                                                                                                                    exact t_k_De_formOfSingle_662 q hq
                                                                                                                                                                                                                  · have z61288 : y_in x0 (202) (255) := z_w (z_ne1 c61286 z61285 (by decide)) (by decide) (by decide)
                                                                                                                                                                                                                    refine z_ok_i (fun c61289 => ?_) (fun c61289 => ?_)
                                                                                                                                                                                                                    · have z61290 : y_in x0 (202) (202) := z_w (z_eq1 c61289 (show y_in (202 : Int32) (202) (202) from ⟨by decide, by decide⟩)) (by decide) (by decide)
                                                                                                                                                                                                                      exact t_k_De_formOfSingle_673 q hq
                                                                                                                                                                                                                    · have z61291 : y_in x0 (203) (255) := z_w (z_ne1 c61289 z61288 (by decide)) (by decide) (by decide)
                                                                                                                                                                                                                      refine z_ok_i (fun c61292 => ?_) (fun c61292 => ?_)
                                                                                                                                                                                                                      · have z61293 : y_in x0 (203) (203) := z_w (z_eq1 c61292 (show y_in (203 : Int32) (203) (203) from ⟨by decide, by decide⟩)) (by decide) (by decide)
                                                                                                                                                                                                                        exact t_k_De_formOfSingle_673 q hq
                                                                                                                                                                                                                      · have z61294 : y_in x0 (204) (255) := z_w (z_ne1 c61292 z61291 (by decide)) (by decide) (by decide)
                                                                                                                                                                                                                        refine z_ok_i (fun c61295 => ?_) (fun c61295 => ?_)
                                                                                                                                                                                                                        · have z61296 : y_in x0 (204) (204) := z_w (z_eq1 c61295 (show y_in (204 : Int32) (204) (204) from ⟨by decide, by decide⟩)) (by decide) (by decide)
                                                                                                                                                                                                                          exact t_k_De_formOfSingle_673 q hq
                                                                                                                                                                                                                        · have z61297 : y_in x0 (205) (255) := z_w (z_ne1 c61295 z61294 (by decide)) (by decide) (by decide)
                                                                                                                                                                                                                          refine z_ok_i (fun c61298 => ?_) (fun c61298 => ?_)
                                                                                                                                                                                                                          · have z61299 : y_in x0 (205) (205) := z_w (z_eq1 c61298 (show y_in (205 : Int32) (205) (205) from ⟨by decide, by decide⟩)) (by decide) (by decide)
                                                                                                                                                                                                                            exact t_k_De_formOfSingle_673 q hq
                                                                                                                                                                                                                          · have z61300 : y_in x0 (206) (255) := z_w (z_ne1 c61298 z61297 (by decide)) (by decide) (by decide)
                                                                                                                                                                                                                            refine z_ok_i (fun c61301 => ?_) (fun c61301 => ?_)
                                                                                                                                                                                                                            · have z61302 : y_in x0 (206) (206) := z_w (z_eq1 c61301 (show y_in (206 : Int32) (206) (206) from ⟨by decide, by decide⟩)) (by decide) (by decide)
                                                                                                                                                                                                                              exact t_k_De_formOfSingle_673 q hq
                                                                                                                                                                                                                            · have z61303 : y_in x0 (207) (255) := z_w (z_ne1 c61301 z61300 (by decide)) (by decide) (by decide)
                                                                                                                                                                                                                              refine z_ok_i (fun c61304 => ?_) (fun c61304 => ?_)
                                                                                                                                                                                                                              · have z61305 : y_in x0 (207) (207) := z_w (z_eq1 c61304 (show y_in (207 : Int32) (207) (207) from ⟨by decide, by decide⟩)) (by decide) (by decide)
                                                                                                                                                                                                                                exact t_k_De_formOfSingle_673 q hq
                                                                                                                                                                                                                              · have z61306 : y_in x0 (208) (255) := z_w (z_ne1 c61304 z61303 (by decide)) (by decide) (by decide)
                                                                                                                                                                                                                                refine z_ok_i (fun c61307 => ?_) (fun c61307 => ?_)
                                                                                                                                                                                                                                · have z61308 : y_in x0 (208) (208) := z_w (z_eq1 c61307 (show y_in (208 : Int32) (208) (208) from ⟨by decide, by decide⟩)) (by decide) (by decide)
                                                                                                                                                                                                                                  exact t_k_De_formOfSingle_646 q hq
                                                                                                                                                                                                                                · have z61309 : y_in x0 (209) (255) := z_w (z_ne1 c61307 z61306 (by decide)) (by decide) (by decide)
                                                                                                                                                                                                                                  refine z_ok_i (fun c61310 => ?_) (fun c61310 => ?_)
                                                                                                                                                                                                                                  · have z61311 : y_in x0 (209) (209) := z_w (z_eq1 c61310 (show y_in (209 : Int32) (209) (209) from ⟨by decide, by decide⟩)) (by decide) (by decide)
                                                                                                                                                                                                                                    exact t_k_De_formOfSingle_646 q hq
                                                                                                                                                                                                                                  · have z61312 : y_in x0 (210) (255) := z_w (z_ne1 c61310 z61309 (by decide)) (by decide) (by decide)
                                                                                                                                                                                                                                    refine z_ok_i (fun c61313 => ?_) (fun c61313 => ?_)
                                                                                                                                                                                                                                    · have z61314 : y_in x0 (210) (210) := z_w (z_eq1 c61313 (show y_in (210 : Int32) (210) (210) from ⟨by decide, by decide⟩)) (by decide) (by decide)
                                                                                                                                                                                                                                      exact t_k_De_formOfSingle_646 q hq
                                                                                                                                                                                                                                    · have z61315 : y_in x0 (211) (255) := z_w (z_ne1 c61313 z61312 (by decide)) (by decide) (by decide)
                                                                                                                                                                                                                                      refine z_ok_i (fun c61316 => ?_) (fun c61316 => ?_)
                                                                                                                                                                                                                                      · have z61317 : y_in x0 (211) (211) := z_w (z_eq1 c61316 (show y_in (211 : Int32) (211) (211) from ⟨by decide, by decide⟩)) (by decide) (by decide)
                                                                                                                                                                                                                                        exact t_k_De_formOfSingle_646 q hq
                                                                                                                                                                                                                                      · have z61318 : y_in x0 (212) (255) := z_w (z_ne1 c61316 z61315 (by decide)) (by decide) (by decide)
                                                                                                                                                                                                                                        refine z_ok_i (fun c61319 => ?_) (fun c61319 => ?_)
                                                                                                                                                                                                                                        · have z61320 : y_in x0 (212) (212) := z_w (z_eq1 c61319 (show y_in (212 : Int32) (212) (212) from ⟨by decide, by decide⟩)) (by decide) (by decide)
                                                                                                                                                                                                                                          exact t_k_De_formOfSingle_673 q hq
                                                                                                                                                                                                                                        · have z61321 : y_in x0 (213) (255) := z_w (z_ne1 c61319 z61318 (by decide)) (by decide) (by decide)
                                                                                                                                                                                                                                          refine z_ok_i (fun c61322 => ?_) (fun c61322 => ?_)
                                                                                                                                                                                                                                          · have z61323 : y_in x0 (213) (213) := z_w (z_eq1 c61322 (show y_in (213 : Int32) (213) (213) from ⟨by decide, by decide⟩)) (by decide) (by decide)
                                                                                                                                                                                                                                            exact t_k_De_formOfSingle_673 q hq
                                                                                                                                                                                                                                          · have z61324 : y_in x0 (214) (255) := z_w (z_ne1 c61322 z61321 (by decide)) (by decide) (by decide)
                                                                                                                                                                                                                                            refine z_ok_i (fun c61325 => ?_) (fun c61325 => ?_)
                                                                                                                                                                                                                                            · have z61326 : y_in x0 (214) (214) := z_w (z_eq1 c61325 (show y_in (214 : Int32) (214) (214) from ⟨by decide, by decide⟩)) (by decide) (by decide)
                                                                                                                                                                                                                                              exact t_k_De_formOfSingle_673 q hq
                                                                                                                                                                                                                                            · have z61327 : y_in x0 (215) (255) := z_w (z_ne1 c61325 z61324 (by decide)) (by decide) (by decide)
                                                                                                                                                                                                                                              refine z_ok_i (fun c61328 => ?_) (fun c61328 => ?_)
                                                                                                                                                                                                                                              · have z61329 : y_in x0 (215) (215) := z_w (z_eq1 c61328 (show y_in (215 : Int32) (215) (215) from ⟨by decide, by decide⟩)) (by decide) (by decide)
                                                                                                                                                                                                                                                exact t_k_De_formOfSingle_673 q hq
                                                                                                                                                                                                                                              · have z61330 : y_in x0 (216) (255) := z_w (z_ne1 c61328 z61327 (by decide)) (by decide) (by decide)
                                                                                                                                                                                                                                                refine z_ok_i (fun c61331 => ?_) (fun c61331 => ?_)
                                                                                                                                                                                                                                                · have z61332 : y_in x0 (216) (216) := z_w (z_eq1 c61331 (show y_in (216 : Int32) (216) (216) from ⟨by decide, by decide⟩)) (by decide) (by decide)
                                                                                                                                                                                                                                                  exact t_k_De_formOfSingle_673 q hq
                                                                                                                                                                                                                                                · have z61333 : y_in x0 (217) (255) := z_w (z_ne1 c61331 z61330 (by decide)) (by decide) (by decide)
                                                                                                                                                                                                                                                  refine z_ok_i (fun c61334 => ?_) (fun c61334 => ?_)
                                                                                                                                                                                                                                                  · have z61335 : y_in x0 (217) (217) := z_w (z_eq1 c61334 (show y_in (217 : Int32) (217) (217) from ⟨by decide, by decide⟩)) (by decide) (by decide)
                                                                                                                                                                                                                                                    exact t_k_De_formOfSingle_673 q hq
                                                                                                                                                                                                                                                  · have z61336 : y_in x0 (218) (255) := z_w (z_ne1 c61334 z61333 (by decide)) (by decide) (by decide)
                                                                                                                                                                                                                                                    refine z_ok_i (fun c61337 => ?_) (fun c61337 => ?_)
                                                                                                                                                                                                                                                    · have z61338 : y_in x0 (218) (218) := z_w (z_eq1 c61337 (show y_in (218 : Int32) (218) (218) from ⟨by decide, by decide⟩)) (by decide) (by decide)
                                                                                                                                                                                                                                                      exact t_k_De_formOfSingle_673 q hq
                                                                                                                                                                                                                                                    · have z61339 : y_in x0 (219) (255) := z_w (z_ne1 c61337 z61336 (by decide)) (by decide) (by decide)
                                                                                                                                                                                                                                                      refine z_ok_i (fun c61340 => ?_) (fun c61340 => ?_)
                                                                                                                                                                                                                                                      · have z61341 : y_in x0 (219) (219) := z_w (z_eq1 c61340 (show y_in (219 : Int32) (219) (219) from ⟨by decide, by decide⟩)) (by decide) (by decide)
                                                                                                                                                                                                                                                        exact t_k_De_formOfSingle_673 q hq
                                                                                                                                                                                                                                                      · have z61342 : y_in x0 (220) (255) := z_w (z_ne1 c61340 z61339 (by decide)) (by decide) (by decide)
                                                                                                                                                                                                                                                        refine z_ok_i (fun c61343 => ?_) (fun c61343 => ?_)
                                                                                                                                                                                                                                                        · have z61344 : y_in x0 (220) (220) := z_w (z_eq1 c61343 (show y_in (220 : Int32) (220) (220) from ⟨by decide, by decide⟩)) (by decide) (by decide)
                                                                                                                                                                                                                                                          exact t_k_De_formOfSingle_673 q hq
                                                                                                                                                                                                                                                        · have z61345 : y_in x0 (221) (255) := z_w (z_ne1 c61343 z61342 (by decide)) (by decide) (by decide)
                                                                                                                                                                                                                                                          refine z_ok_i (fun c61346 => ?_) (fun c61346 => ?_)
                                                                                                                                                                                                                                                          · have z61347 : y_in x0 (221) (221) := z_w (z_eq1 c61346 (show y_in (221 : Int32) (221) (221) from ⟨by decide, by decide⟩)) (by decide) (by decide)
                                                                                                                                                                                                                                                            exact t_k_De_formOfSingle_673 q hq
                                                                                                                                                                                                                                                          · have z61348 : y_in x0 (222) (255) := z_w (z_ne1 c61346 z61345 (by decide)) (by decide) (by decide)
                                                                                                                                                                                                                                                            refine z_ok_i (fun c61349 => ?_) (fun c61349 => ?_)
                                                                                                                                                                                                                                                            · have z61350 : y_in x0 (222) (222) := z_w (z_eq1 c61349 (show y_in (222 : Int32) (222) (222) from ⟨by decide, by decide⟩)) (by decide) (by decide)
                                                                                                                                                                                                                                                              exact t_k_De_formOfSingle_673 q hq
                                                                                                                                                                                                                                                            · have z61351 : y_in x0 (223) (255) := z_w (z_ne1 c61349 z61348 (by decide)) (by decide) (by decide)
                                                                                                                                                                                                                                                              refine z_ok_i (fun c61352 => ?_) (fun c61352 => ?_)
                                                                                                                                                                                                                                                              · have z61353 : y_in x0 (223) (223) := z_w (z_eq1 c61352 (show y_in (223 : Int32) (223) (223) from ⟨by decide, by decide⟩)) (by decide) (by decide)
                                                                                                                                                                                                                                                                exact t_k_De_formOfSingle_673 q hq
                                                                                                                                                                                                                                                              · have z61354 : y_in x0 (224) (255) := z_w (z_ne1 c61352 z61351 (by decide)) (by decide) (by decide)
                                                                                                                                                                                                                                                                refine z_ok_i (fun c61355 => ?_) (fun c61355 => ?_)
                                                                                                                                                                                                                                                                · have z61356 : y_in x0 (224) (224) := z_w (z_eq1 c61355 (show y_in (224 : Int32) (224) (224) from ⟨by decide, by decide⟩)) (by decide) (by decide)
                                                                                                                                                                                                                                                                  exact t_k_De_formOfSingle_667 q hq
                                                                                                                                                                                                                                                                · have z61357 : y_in x0 (225) (255) := z_w (z_ne1 c61355 z61354 (by decide)) (by decide) (by decide)
                                                                                                                                                                                                                                                                  refine z_ok_i (fun c61358 => ?_) (fun c61358 => ?_)
                                                                                                                                                                                                                                                                  · have z61359 : y_in x0 (225) (225) := z_w (z_eq1 c61358 (show y_in (225 : Int32) (225) (225) from ⟨by decide, by decide⟩)) (by decide) (by decide)
                                                                                                                                                                                                                                                                    exact t_k_De_formOfSingle_667 q hq
                                                                                                                                                                                                                                                                  · have z61360 : y_in x0 (226) (255) := z_w (z_ne1 c61358 z61357 (by decide)) (by decide) (by decide)
                                                                                                                                                                                                                                                                    refine z_ok_i (fun c61361 => ?_) (fun c61361 => ?_)
                                                                                                                                                                                                                                                                    · have z61362 : y_in x0 (226) (226) := z_w (z_eq1 c61361 (show y_in (226 : Int32) (226) (226) from ⟨by decide, by decide⟩)) (by decide) (by decide)
                                                                                                                                                                                                                                                                      exact t_k_De_formOfSingle_667 q hq
                                                                                                                                                                                                                                                                    · have z61363 : y_in x0 (227) (255) := z_w (z_ne1 c61361 z61360 (by decide)) (by decide) (by decide)
                                                                                                                                                                                                                                                                      refine z_ok_i (fun c61364 => ?_) (fun c61364 => ?_)
                                                                                                                                                                                                                                                                      · have z61365 : y_in x0 (227) (227) := z_w (z_eq1 c61364 (show y_in (227 : Int32) (227) (227) from ⟨by decide, by decide⟩)) (by decide) (by decide)
                                                                                                                                                                                                                                                                        exact t_k_De_formOfSingle_667 q hq
                                                                                                                                                                                                                                                                      · have z61366 : y_in x0 (228) (255) := z_w (z_ne1 c61364 z61363 (by decide)) (by decide) (by decide)
                                                                                                                                                                                                                                                                        refine z_ok_i (fun c61367 => ?_) (fun c61367 => ?_)
                                                                                                                                                                                                                                                                        · have z61368 : y_in x0 (228) (228) := z_w (z_eq1 c61367 (show y_in (228 : Int32) (228) (228) from ⟨by decide, by decide⟩)) (by decide) (by decide)
                                                                                                                                                                                                                                                                          exact t_k_De_formOfSingle_673 q hq
                                                                                                                                                                                                                                                                        · have z61369 : y_in x0 (229) (255) := z_w (z_ne1 c61367 z61366 (by decide)) (by decide) (by decide)
                                                                                                                                                                                                                                                                          refine z_ok_i (fun c61370 => ?_) (fun c61370 => ?_)
                                                                                                                                                                                                                                                                          · have z61371 : y_in x0 (229) (229) := z_w (z_eq1 c61370 (show y_in (229 : Int32) (229) (229) from ⟨by decide, by decide⟩)) (by decide) (by decide)
                                                                                                                                                                                                                                                                            exact t_k_De_formOfSingle_673 q hq
                                                                                                                                                                                                                                                                          · have z61372 : y_in x0 (230) (255) := z_w (z_ne1 c61370 z61369 (by decide)) (by decide) (by decide)
                                                                                                                                                                                                                                                                            refine z_ok_i (fun c61373 => ?_) (fun c61373 => ?_)
                                                                                                                                                                                                                                                                            · have z61374 : y_in x0 (230) (230) := z_w (z_eq1 c61373 (show y_in (230 : Int32) (230) (230) from ⟨by decide, by decide⟩)) (by decide) (by decide)
                                                                                                                                                                                                                                                                              exact t_k_De_formOfSingle_673 q hq
                                                                                                                                                                                                                                                                            · have z61375 : y_in x0 (231) (255) := z_w (z_ne1 c61373 z61372 (by decide)) (by decide) (by decide)
                                                                                                                                                                                                                                                                              refine z_ok_i (fun c61376 => ?_) (fun c61376 => ?_)
                                                                                                                                                                                                                                                                              · have z61377 : y_in x0 (231) (231) := z_w (z_eq1 c61376 (show y_in (231 : Int32) (231) (231) from ⟨by decide, by decide⟩)) (by decide) (by decide)
                                                                                                                                                                                                                                                                                exact t_k_De_formOfSingle_673 q hq
                                                                                                                                                                                                                                                                              · have z61378 : y_in x0 (232) (255) := z_w (z_ne1 c61376 z61375 (by decide)) (by decide) (by decide)
                                                                                                                                                                                                                                                                                refine z_ok_i (fun c61379 => ?_) (fun c61379 => ?_)
                                                                                                                                                                                                                                                                                · have z61380 : y_in x0 (232) (232) := z_w (z_eq1 c61379 (show y_in (232 : Int32) (232) (232) from ⟨by decide, by decide⟩)) (by decide) (by decide)
                                                                                                                                                                                                                                                                                  exact t_k_De_formOfSingle_670 q hq
                                                                                                                                                                                                                                                                                · have z61381 : y_in x0 (233) (255) := z_w (z_ne1 c61379 z61378 (by decide)) (by decide) (by decide)
                                                                                                                                                                                                                                                                                  refine z_ok_i (fun c61382 => ?_) (fun c61382 => ?_)
                                                                                                                                                                                                                                                                                  · have z61383 : y_in x0 (233) (233) := z_w (z_eq1 c61382 (show y_in (233 : Int32) (233) (233) from ⟨by decide, by decide⟩)) (by decide) (by decide)
                                                                                                                                                                                                                                                                                    exact t_k_De_formOfSingle_670 q hq
                                                                                                                                                                                                                                                                                  · have z61384 : y_in x0 (234) (255) := z_w (z_ne1 c61382 z61381 (by decide)) (by decide) (by decide)
                                                                                                                                                                                                                                                                                    refine z_ok_i (fun c61385 => ?_) (fun c61385 => ?_)
                                                                                                                                                                                                                                                                                    · have z61386 : y_in x0 (234) (234) := z_w (z_eq1 c61385 (show y_in (234 : Int32) (234) (234) from ⟨by decide, by decide⟩)) (by decide) (by decide)
                                                                                                                                                                                                                                                                                      exact t_k_De_formOfSingle_673 q hq
                                                                                                                                                                                                                                                                                    · have z61387 : y_in x0 (235) (255) := z_w (z_ne1 c61385 z61384 (by decide)) (by decide) (by decide)
                                                                                                                                                                                                                                                                                      refine z_ok_i (fun c61388 => ?_) (fun c61388 => ?_)
                                                                                                                                                                                                                                                                                      · have z61389 : y_in x0 (235) (235) := z_w (z_eq1 c61388 (show y_in (235 : Int32) (235) (235) from ⟨by decide, by decide⟩)) (by decide) (by decide)
                                                                                                                                                                                                                                                                                        exact t_k_De_formOfSingle_667 q hq
                                                                                                                                                                                                                                                                                      · have z61390 : y_in x0 (236) (255) := z_w (z_ne1 c61388 z61387 (by decide)) (by decide) (by decide)
                                                                                                                                                                                                                                                                                        refine z_ok_i (fun c61391 => ?_) (fun c61391 => ?_)
                                                                                                                                                                                                                                                                                        · have z61392 : y_in x0 (236) (236) := z_w (z_eq1 c61391 (show y_in (236 : Int32) (236) (236) from ⟨by decide, by decide⟩)) (by decide) (by decide)
                                                                                                                                                                                                                                                                                          exact t_k_De_formOfSingle_673 q hq
                                                                                                                                                                                                                                                                                        · have z61393 : y_in x0 (237) (255) := z_w (z_ne1 c61391 z61390 (by decide)) (by decide) (by decide)
                                                                                                                                                                                                                                                                                          refine z_ok_i (fun c61394 => ?_) (fun c61394 => ?_)
                                                                                                                                                                                                                                                                                          · have z61395 : y_in x0 (237) (237) := z_w (z_eq1 c61394 (show y_in (237 : Int32) (237) (237) from ⟨by decide, by decide⟩)) (by decide) (by decide)
                                                                                                                                                                                                                                                                                            exact t_k_De_formOfSingle_673 q hq
                                                                                                                                                                                                                                                                                          · have z61396 : y_in x0 (238) (255) := z_w (z_ne1 c61394 z61393 (by decide)) (by decide) (by decide)
                                                                                                                                                                                                                                                                                            refine z_ok_i (fun c61397 => ?_) (fun c61397 => ?_)
                                                                                                                                                                                                                                                                                            · have z61398 : y_in x0 (238) (238) := z_w (z_eq1 c61397 (show y_in (238 : Int32) (238) (238) from ⟨by decide, by decide⟩)) (by decide) (by decide)
                                                                                                                                                                                                                                                                                              exact t_k_De_formOfSingle_673 q hq
                                                                                                                                                                                                                                                                                            · have z61399 : y_in x0 (239) (255) := z_w (z_ne1 c61397 z61396 (by decide)) (by decide) (by decide)
                                                                                                                                                                                                                                                                                              refine z_ok_i (fun c61400 => ?_) (fun c61400 => ?_)
                                                                                                                                                                                                                                                                                              · have z61401 : y_in x0 (239) (239) := z_w (z_eq1 c61400 (show y_in (239 : Int32) (239) (239) from ⟨by decide, by decide⟩)) (by decide) (by decide)
                                                                                                                                                                                                                                                                                                exact t_k_De_formOfSingle_673 q hq
                                                                                                                                                                                                                                                                                              · have z61402 : y_in x0 (240) (255) := z_w (z_ne1 c61400 z61399 (by decide)) (by decide) (by decide)
                                                                                                                                                                                                                                                                                                refine z_ok_i (fun c61403 => ?_) (fun c61403 => ?_)
                                                                                                                                                                                                                                                                                                · have z61404 : y_in x0 (240) (240) := z_w (z_eq1 c61403 (show y_in (240 : Int32) (240) (240) from ⟨by decide, by decide⟩)) (by decide) (by decide)
                                                                                                                                                                                                                                                                                                  exact t_k_De_formOfSingle_673 q hq
                                                                                                                                                                                                                                                                                                · have z61405 : y_in x0 (241) (255) := z_w (z_ne1 c61403 z61402 (by decide)) (by decide) (by decide)
                                                                                                                                                                                                                                                                                                  refine z_ok_i (fun c61406 => ?_) (fun c61406 => ?_)
                                                                                                                                                                                                                                                                                                  · have z61407 : y_in x0 (241) (241) := z_w (z_eq1 c61406 (show y_in (241 : Int32) (241) (241) from ⟨by decide, by decide⟩)) (by decide) (by decide)
                                                                                                                                                                                                                                                                                                    exact t_k_De_formOfSingle_673 q hq
                                                                                                                                                                                                                                                                                                  · have z61408 : y_in x0 (242) (255) := z_w (z_ne1 c61406 z61405 (by decide)) (by decide) (by decide)
                                                                                                                                                                                                                                                                                                    refine z_ok_i (fun c61409 => ?_) (fun c61409 => ?_)
                                                                                                                                                                                                                                                                                                    · have z61410 : y_in x0 (242) (242) := z_w (z_eq1 c61409 (show y_in (242 : Int32) (242) (242) from ⟨by decide, by decide⟩)) (by decide) (by decide)
                                                                                                                                                                                                                                                                                                      exact t_k_De_formOfSingle_673 q hq
                                                                                                                                                                                                                                                                                                    · have z61411 : y_in x0 (243) (255) := z_w (z_ne1 c61409 z61408 (by decide)) (by decide) (by decide)
                                                                                                                                                                                                                                                                                                      refine z_ok_i (fun c61412 => ?_) (fun c61412 => ?_)
                                                                                                                                                                                                                                                                                                      · have z61413 : y_in x0 (243) (243) := z_w (z_eq1 c61412 (show y_in (243 : Int32) (243) (243) from ⟨by decide, by decide⟩)) (by decide) (by decide)
                                                                                                                                                                                                                                                                                                        exact t_k_De_formOfSingle_673 q hq
                                                                                                                                                                                                                                                                                                      · have z61414 : y_in x0 (244) (255) := z_w (z_ne1 c61412 z61411 (by decide)) (by decide) (by decide)
                                                                                                                                                                                                                                                                                                        refine z_ok_i (fun c61415 => ?_) (fun c61415 => ?_)
                                                                                                                                                                                                                                                                                                        · have z61416 : y_in x0 (244) (244) := z_w (z_eq1 c61415 (show y_in (244 : Int32) (244) (244) from ⟨by decide, by decide⟩)) (by decide) (by decide)
                                                                                                                                                                                                                                                                                                          exact t_k_De_formOfSingle_673 q hq
                                                                                                                                                                                                                                                                                                        · have z61417 : y_in x0 (245) (255) := z_w (z_ne1 c61415 z61414 (by decide)) (by decide) (by decide)
                                                                                                                                                                                                                                                                                                          refine z_ok_i (fun c61418 => ?_) (fun c61418 => ?_)
                                                                                                                                                                                                                                                                                                          · have z61419 : y_in x0 (245) (245) := z_w (z_eq1 c61418 (show y_in (245 : Int32) (245) (245) from ⟨by decide, by decide⟩)) (by decide) (by decide)
                                                                                                                                                                                                                                                                                                            exact t_k_De_formOfSingle_644 q hq
                                                                                                                                                                                                                                                                                                          · have z61420 : y_in x0 (246) (255) := z_w (z_ne1 c61418 z61417 (by decide)) (by decide) (by decide)
                                                                                                                                                                                                                                                                                                            refine z_ok_i (fun c61421 => ?_) (fun c61421 => ?_)
                                                                                                                                                                                                                                                                                                            · have z61422 : y_in x0 (246) (246) := z_w (z_eq1 c61421 (show y_in (246 : Int32) (246) (246) from ⟨by decide, by decide⟩)) (by decide) (by decide)
                                                                                                                                                                                                                                                                                                              exact t_k_De_formOfSingle_646 q hq
                                                                                                                                                                                                                                                                                                            · have z61423 : y_in x0 (247) (255) := z_w (z_ne1 c61421 z61420 (by decide)) (by decide) (by decide)
                                                                                                                                                                                                                                                                                                              refine z_ok_i (fun c61424 => ?_) (fun c61424 => ?_)
                                                                                                                                                                                                                                                                                                              · have z61425 : y_in x0 (247) (247) := z_w (z_eq1 c61424 (show y_in (247 : Int32) (247) (247) from ⟨by decide, by decide⟩)) (by decide) (by decide)
                                                                                                                                                                                                                                                                                                                exact t_k_De_formOfSingle_646 q hq
                                                                                                                                                                                                                                                                                                              · have z61426 : y_in x0 (248) (255) := z_w (z_ne1 c61424 z61423 (by decide)) (by decide) (by decide)
                                                                                                                                                                                                                                                                                                                refine z_ok_i (fun c61427 => ?_) (fun c61427 => ?_)
                                                                                                                                                                                                                                                                                                                · have z61428 : y_in x0 (248) (248) := z_w (z_eq1 c61427 (show y_in (248 : Int32) (248) (248) from ⟨by decide, by decide⟩)) (by decide) (by decide)
                                                                                                                                                                                                                                                                                                                  exact t_k_De_formOfSingle_644 q hq
                                                                                                                                                                                                                                                                                                                · have z61429 : y_in x0 (249) (255) := z_w (z_ne1 c61427 z61426 (by decide)) (by decide) (by decide)
                                                                                                                                                                                                                                                                                                                  refine z_ok_i (fun c61430 => ?_) (fun c61430 => ?_)
                                                                                                                                                                                                                                                                                                                  · have z61431 : y_in x0 (249) (249) := z_w (z_eq1 c61430 (show y_in (249 : Int32) (249) (249) from ⟨by decide, by decide⟩)) (by decide) (by decide)
                                                                                                                                                                                                                                                                                                                    exact t_k_De_formOfSingle_644 q hq
                                                                                                                                                                                                                                                                                                                  · have z61432 : y_in x0 (250) (255) := z_w (z_ne1 c61430 z61429 (by decide)) (by decide) (by decide)
                                                                                                                                                                                                                                                                                                                    refine z_ok_i (fun c61433 => ?_) (fun c61433 => ?_)
                                                                                                                                                                                                                                                                                                                    · have z61434 : y_in x0 (250) (250) := z_w (z_eq1 c61433 (show y_in (250 : Int32) (250) (250) from ⟨by decide, by decide⟩)) (by decide) (by decide)
                                                                                                                                                                                                                                                                                                                      exact t_k_De_formOfSingle_673 q hq
                                                                                                                                                                                                                                                                                                                    · have z61435 : y_in x0 (251) (255) := z_w (z_ne1 c61433 z61432 (by decide)) (by decide) (by decide)
                                                                                                                                                                                                                                                                                                                      refine z_ok_i (fun c61436 => ?_) (fun c61436 => ?_)
                                                                                                                                                                                                                                                                                                                      · have z61437 : y_in x0 (251) (251) := z_w (z_eq1 c61436 (show y_in (251 : Int32) (251) (251) from ⟨by decide, by decide⟩)) (by decide) (by decide)
                                                                                                                                                                                                                                                                                                                        exact t_k_De_formOfSingle_673 q hq
                                                                                                                                                                                                                                                                                                                      · have z61438 : y_in x0 (252) (255) := z_w (z_ne1 c61436 z61435 (by decide)) (by decide) (by decide)
                                                                                                                                                                                                                                                                                                                        refine z_ok_i (fun c61439 => ?_) (fun c61439 => ?_)
                                                                                                                                                                                                                                                                                                                        · have z61440 : y_in x0 (252) (252) := z_w (z_eq1 c61439 (show y_in (252 : Int32) (252) (252) from ⟨by decide, by decide⟩)) (by decide) (by decide)
                                                                                                                                                                                                                                                                                                                          exact t_k_De_formOfSingle_644 q hq
                                                                                                                                                                                                                                                                                                                        · have z61441 : y_in x0 (253) (255) := z_w (z_ne1 c61439 z61438 (by decide)) (by decide) (by decide)
                                                                                                                                                                                                                                                                                                                          refine z_ok_i (fun c61442 => ?_) (fun c61442 => ?_)
                                                                                                                                                                                                                                                                                                                          · have z61443 : y_in x0 (253) (253) := z_w (z_eq1 c61442 (show y_in (253 : Int32) (253) (253) from ⟨by decide, by decide⟩)) (by decide) (by decide)
                                                                                                                                                                                                                                                                                                                            exact t_k_De_formOfSingle_644 q hq
                                                                                                                                                                                                                                                                                                                          · have z61444 : y_in x0 (254) (255) := z_w (z_ne1 c61442 z61441 (by decide)) (by decide) (by decide)
                                                                                                                                                                                                                                                                                                                            refine z_ok_i (fun c61445 => ?_) (fun c61445 => ?_)
                                                                                                                                                                                                                                                                                                                            · have z61446 : y_in x0 (254) (254) := z_w (z_eq1 c61445 (show y_in (254 : Int32) (254) (254) from ⟨by decide, by decide⟩)) (by decide) (by decide)
                                                                                                                                                                                                                                                                                                                              exact t_k_De_formOfSingle_646 q hq
                                                                                                                                                                                                                                                                                                                            · have z61447 : y_in x0 (255) (255) := z_w (z_ne1 c61445 z61444 (by decide)) (by decide) (by decide)
                                                                                                                                                                                                                                                                                                                              exact t_k_De_formOfSingle_646 q hq

set_option maxHeartbeats 4000000 in
set_option maxRecDepth 100000 in
theorem t_k_De_formOfOne_136 (x0 : Int32) (q : z_Sg) (hx0 : y_in x0 (0) (255)) (hq : iK q) : z_ok (k_De_formOfOne_136 x0 q) (fun o : Int32 => y_in o (0) (255)) := by
  unfold k_De_formOfOne_136
  refine z_ok_b (t_f_De_formOfSum (x0 &&& (7 : Int32)) q (z_and (show y_in (7 : Int32) (7) (7) from ⟨by decide, by decide⟩) (by decide)) hq) (fun r2 hr2 => ?_)
  exact z_ok_s (z_w hr2 (by decide) (by decide))

set_option maxHeartbeats 4000000 in
set_option maxRecDepth 100000 in
theorem t_k_De_formOfOne_144 (q : z_Sg) (hq : iK q) : z_ok (k_De_formOfOne_144 q) (fun o : Int32 => y_in o (0) (255)) := by
  unfold k_De_formOfOne_144
  exact z_ok_s (z_w (show y_in (1 : Int32) (1) (1) from ⟨by decide, by decide⟩) (by decide) (by decide))

set_option maxHeartbeats 4000000 in
set_option maxRecDepth 100000 in
theorem t_k_De_formOfOne_146 (q : z_Sg) (hq : iK q) : z_ok (k_De_formOfOne_146 q) (fun o : Int32 => y_in o (0) (255)) := by
  unfold k_De_formOfOne_146
  exact z_ok_s (z_w (show y_in (12 : Int32) (12) (12) from ⟨by decide, by decide⟩) (by decide) (by decide))

set_option maxHeartbeats 4000000 in
set_option maxRecDepth 100000 in
theorem t_f_De_formOfOne (x0 : Int32) (q : z_Sg) (hx0 : y_in x0 (0) (255)) (hq : iK q) : z_ok (f_De_formOfOne x0 q) (fun o : Int32 => y_in o (0) (255)) := by
  unfold f_De_formOfOne
  refine z_ok_i (fun c61448 => ?_) (fun c61448 => ?_)
  · have z61449 : y_in (x0 &&& (248 : Int32)) (0) (0) := z_w (z_eq1 c61448 (show y_in (0 : Int32) (0) (0) from ⟨by decide, by decide⟩)) (by decide) (by decide)
    exact t_k_De_formOfOne_136 x0 q hx0 hq
  · have z61450 : y_in (x0 &&& (248 : Int32)) (1) (248) := z_w (z_ne1 c61448 (z_and (show y_in (248 : Int32) (248) (248) from ⟨by decide, by decide⟩) (by decide)) (by decide)) (by decide) (by decide)
    refine z_ok_i (fun c61451 => ?_) (fun c61451 => ?_)
    · have z61452 : y_in (x0 &&& (248 : Int32)) (8) (8) := z_w (z_eq1 c61451 (show y_in (8 : Int32) (8) (8) from ⟨by decide, by decide⟩)) (by decide) (by decide)
      exact t_k_De_formOfOne_136 x0 q hx0 hq
    · refine z_ok_i (fun c61453 => ?_) (fun c61453 => ?_)
      · have z61454 : y_in (x0 &&& (248 : Int32)) (16) (16) := z_w (z_eq1 c61453 (show y_in (16 : Int32) (16) (16) from ⟨by decide, by decide⟩)) (by decide) (by decide)
        exact t_k_De_formOfOne_136 x0 q hx0 hq
      · refine z_ok_i (fun c61455 => ?_) (fun c61455 => ?_)
        · have z61456 : y_in (x0 &&& (248 : Int32)) (24) (24) := z_w (z_eq1 c61455 (show y_in (24 : Int32) (24) (24) from ⟨by decide, by decide⟩)) (by decide) (by decide)
          exact t_k_De_formOfOne_136 x0 q hx0 hq
        · refine z_ok_i (fun c61457 => ?_) (fun c61457 => ?_)
          · have z61458 : y_in (x0 &&& (248 : Int32)) (32) (32) := z_w (z_eq1 c61457 (show y_in (32 : Int32) (32) (32) from ⟨by decide, by decide⟩)) (by decide) (by decide)
            exact t_k_De_formOfOne_136 x0 q hx0 hq
          · refine z_ok_i (fun c61459 => ?_) (fun c61459 => ?_)
            · have z61460 : y_in (x0 &&& (248 : Int32)) (40) (40) := z_w (z_eq1 c61459 (show y_in (40 : Int32) (40) (40) from ⟨by decide, by decide⟩)) (by decide) (by decide)
              exact t_k_De_formOfOne_136 x0 q hx0 hq
            · refine z_ok_i (fun c61461 => ?_) (fun c61461 => ?_)
              · have z61462 : y_in (x0 &&& (248 : Int32)) (48) (48) := z_w (z_eq1 c61461 (show y_in (48 : Int32) (48) (48) from ⟨by decide, by decide⟩)) (by decide) (by decide)
                exact t_k_De_formOfOne_136 x0 q hx0 hq
              · refine z_ok_i (fun c61463 => ?_) (fun c61463 => ?_)
                · have z61464 : y_in (x0 &&& (248 : Int32)) (56) (56) := z_w (z_eq1 c61463 (show y_in (56 : Int32) (56) (56) from ⟨by decide, by decide⟩)) (by decide) (by decide)
                  exact t_k_De_formOfOne_136 x0 q hx0 hq
                · refine z_ok_i (fun c61465 => ?_) (fun c61465 => ?_)
                  · have z61466 : y_in (x0 &&& (248 : Int32)) (80) (80) := z_w (z_eq1 c61465 (show y_in (80 : Int32) (80) (80) from ⟨by decide, by decide⟩)) (by decide) (by decide)
                    exact t_k_De_formOfOne_144 q hq
                  · refine z_ok_i (fun c61467 => ?_) (fun c61467 => ?_)
                    · have z61468 : y_in (x0 &&& (248 : Int32)) (88) (88) := z_w (z_eq1 c61467 (show y_in (88 : Int32) (88) (88) from ⟨by decide, by decide⟩)) (by decide) (by decide)
                      exact t_k_De_formOfOne_144 q hq
                    · refine z_ok_i (fun c61469 => ?_) (fun c61469 => ?_)
                      · have z61470 : y_in (x0 &&& (248 : Int32)) (112) (112) := z_w (z_eq1 c61469 (show y_in (112 : Int32) (112) (112) from ⟨by decide, by decide⟩)) (by decide) (by decide)
                        exact t_k_De_formOfOne_146 q hq
                      · refine z_ok_i (fun c61471 => ?_) (fun c61471 => ?_)
                        · have z61472 : y_in (x0 &&& (248 : Int32)) (120) (120) := z_w (z_eq1 c61471 (show y_in (120 : Int32) (120) (120) from ⟨by decide, by decide⟩)) (by decide) (by decide)
                          exact t_k_De_formOfOne_146 q hq
                        · refine z_ok_i (fun c61473 => ?_) (fun c61473 => ?_)
                          · have z61474 : y_in (x0 &&& (248 : Int32)) (144) (144) := z_w (z_eq1 c61473 (show y_in (144 : Int32) (144) (144) from ⟨by decide, by decide⟩)) (by decide) (by decide)
                            exact t_k_De_formOfOne_144 q hq
                          · refine z_ok_i (fun c61475 => ?_) (fun c61475 => ?_)
                            · have z61476 : y_in (x0 &&& (248 : Int32)) (176) (176) := z_w (z_eq1 c61475 (show y_in (176 : Int32) (176) (176) from ⟨by decide, by decide⟩)) (by decide) (by decide)
                              exact z_ok_s (z_w (show y_in (8 : Int32) (8) (8) from ⟨by decide, by decide⟩) (by decide) (by decide))
                            · refine z_ok_i (fun c61477 => ?_) (fun c61477 => ?_)
                              · have z61478 : y_in (x0 &&& (248 : Int32)) (184) (184) := z_w (z_eq1 c61477 (show y_in (184 : Int32) (184) (184) from ⟨by decide, by decide⟩)) (by decide) (by decide)
                                exact z_ok_s (z_w (show y_in (64 : Int32) (64) (64) from ⟨by decide, by decide⟩) (by decide) (by decide))
                              · refine z_ok_b (t_f_De_formOfSingle x0 q hx0 hq) (fun r17 hr17 => ?_)
                                exact z_ok_s hr17

set_option maxHeartbeats 4000000 in
set_option maxRecDepth 100000 in
theorem t_k_De_decode_56 (q : z_Sg) (hq : iK q) : z_ok (k_De_decode_56 q) (fun o : Int32 × z_Sg => iK o.2 ∧ y_in o.1 (-1) (14)) := by
  unfold k_De_decode_56
  exact z_ok_s ⟨hq, (z_w (show y_in (6 : Int32) (6) (6) from ⟨by decide, by decide⟩) (by decide) (by decide))⟩

set_option maxHeartbeats 4000000 in
set_option maxRecDepth 100000 in
theorem t_k_De_decode_93 (x1 : Int32) (x2 : Int32) (q : z_Sg) (hx1 : y_in x1 (-1) (14)) (hx2 : y_in x2 (1) (255)) (hq : iK q) : z_ok (k_De_decode_93 x1 x2 q) (fun o : Int32 × z_Sg => iK o.2 ∧ y_in o.1 (-1) (14)) := by
  unfold k_De_decode_93
  refine z_ok_i (fun c61479 => ?_) (fun c61479 => ?_)
  · have z61480 : y_in x1 (-1) (-1) := z_w (z_eq1 c61479 (show y_in (-1 : Int32) (-1) (-1) from ⟨by decide, by decide⟩)) (by decide) (by decide)
    refine z_ok_b (t_f_De_bytesOfNumber x2 q hx2 hq) (fun r12 hr12 => ?_)
    refine z_ok_b (t_f_De_fetchNumber r12 q hr12 hq) (fun r13 hr13 => ?_)
    refine z_ok_n (fun q14 eq14 => ?_)
    have hq14 : iK q14 := by rw [eq14]; exact (iK_sL hr13.1)
    refine z_ok_n (fun q15 eq15 => ?_)
    have hq15 : iK q15 := by rw [eq15]; exact (iK_sL hq14)
    exact z_ok_s ⟨hq15, hr13.2⟩
  · have z61481 : y_in x1 (0) (14) := z_w (z_ne1 c61479 hx1 (by decide)) (by decide) (by decide)
    exact z_ok_s ⟨hq, (z_w z61481 (by decide) (by decide))⟩

set_option maxHeartbeats 4000000 in
set_option maxRecDepth 100000 in
theorem t_k_De_decode_75 (x1 : Int32) (x2 : Int32) (q : z_Sg) (hx1 : y_in x1 (-1) (14)) (hx2 : y_in x2 (1) (255)) (hq : iK q) : z_ok (k_De_decode_75 x1 x2 q) (fun o : Int32 × z_Sg => iK o.2 ∧ y_in o.1 (-1) (14)) := by
  unfold k_De_decode_75
  refine z_ok_i (fun c61482 => ?_) (fun c61482 => ?_)
  · have z61483 : y_in x1 (-1) (-1) := z_w (z_eq1 c61482 (show y_in (-1 : Int32) (-1) (-1) from ⟨by decide, by decide⟩)) (by decide) (by decide)
    refine z_ok_i (fun c61484 => ?_) (fun c61484 => ?_)
    · have z61485 : y_in (z_gI q 12) (3) (3) := z_w (z_eq1 c61484 (show y_in (3 : Int32) (3) (3) from ⟨by decide, by decide⟩)) (by decide) (by decide)
      exact t_k_De_decode_93 x1 x2 q (z_w z61483 (by decide) (by decide)) hx2 hq
    · refine z_ok_b (t_f_De_fetchPlace q hq) (fun r17 hr17 => ?_)
      exact t_k_De_decode_93 r17.1 x2 r17.2 hr17.2 hx2 hr17.1
  · have z61486 : y_in x1 (0) (14) := z_w (z_ne1 c61482 hx1 (by decide)) (by decide) (by decide)
    exact t_k_De_decode_93 x1 x2 q (z_w z61486 (by decide) (by decide)) hx2 hq

set_option maxHeartbeats 4000000 in
set_option maxRecDepth 100000 in
theorem t_k_De_decode_43 (x1 : Int32) (t0 : Int32) (q : z_Sg) (hx1 : y_in x1 (-1) (-1)) (ht0 : y_in t0 (0) (255)) (hq : iK q) : z_ok (k_De_decode_43 x1 t0 q) (fun o : Int32 × z_Sg => iK o.2 ∧ y_in o.1 (-1) (14)) := by
  unfold k_De_decode_43
  refine z_ok_i (fun c61487 => ?_) (fun c61487 => ?_)
  · have z61488 : y_in t0 (0) (0) := z_w (z_eq1 c61487 (show y_in (0 : Int32) (0) (0) from ⟨by decide, by decide⟩)) (by decide) (by decide)
    exact t_k_De_decode_56 q hq
  · have z61489 : y_in t0 (1) (255) := z_w (z_ne1 c61487 ht0 (by decide)) (by decide) (by decide)
    refine z_ok_b (t_f_De_isToldInSize t0 q z61489 hq) (fun r6 hr6 => ?_)
    refine z_ok_i (fun c61490 => ?_) (fun c61490 => ?_)
    · have z61491 : y_in r6 (0) (0) := z_w (z_eq1 c61490 (show y_in (0 : Int32) (0) (0) from ⟨by decide, by decide⟩)) (by decide) (by decide)
      exact t_k_De_decode_56 q hq
    · have z61492 : y_in r6 (1) (1) := z_w (z_ne1 c61490 hr6 (by decide)) (by decide) (by decide)
      refine z_ok_n (fun q8 eq8 => ?_)
      have hq8 : iK q8 := by rw [eq8]; exact (iK_sI12 hq (z_w (show y_in (3 : Int32) (3) (3) from ⟨by decide, by decide⟩) (by decide) (by decide)))
      refine z_ok_i (fun c61493 => ?_) (fun c61493 => ?_)
      · have z61494 : y_in (t0 &&& (2 : Int32)) (0) (0) := z_w (z_eq1 c61493 (show y_in (0 : Int32) (0) (0) from ⟨by decide, by decide⟩)) (by decide) (by decide)
        exact t_k_De_decode_75 x1 t0 q8 (z_w hx1 (by decide) (by decide)) z61489 hq8
      · have z61495 : y_in (t0 &&& (2 : Int32)) (1) (2) := z_w (z_ne1 c61493 (z_and (show y_in (2 : Int32) (2) (2) from ⟨by decide, by decide⟩) (by decide)) (by decide)) (by decide) (by decide)
        refine z_ok_b (t_f_De_fetchModrm q8 hq8) (fun r18 hr18 => ?_)
        exact t_k_De_decode_75 r18.1 t0 r18.2 hr18.2 z61489 hr18.1

set_option maxHeartbeats 4000000 in
set_option maxRecDepth 100000 in
theorem t_f_De_decode (q : z_Sg) (hq : iK q) : z_ok (f_De_decode q) (fun o : Int32 × z_Sg => iK o.2 ∧ y_in o.1 (-1) (14)) := by
  unfold f_De_decode
  refine z_ok_b (t_f_De_fetchOpcode q hq) (fun r1 hr1 => ?_)
  refine z_ok_i (fun c61496 => ?_) (fun c61496 => ?_)
  · have z61497 : y_in r1.1 (-1) (-1) := z_w (z_eq1 c61496 (show y_in (-1 : Int32) (-1) (-1) from ⟨by decide, by decide⟩)) (by decide) (by decide)
    refine z_ok_i (fun c61498 => ?_) (fun c61498 => ?_)
    · have z61499 : y_in (z_gI r1.2 11) (256) (511) := z_w (z_le2 c61498 (show y_in (256 : Int32) (256) (256) from ⟨by decide, by decide⟩) (iK_f11 hr1.1)) (by decide) (by decide)
      refine z_ok_b (t_f_De_formOfTwo ((z_gI r1.2 11) - (256 : Int32)) r1.2 (z_w (a' := 0) (b' := 255) (z_sub z61499 (show y_in (256 : Int32) (256) (256) from ⟨by decide, by decide⟩) (by decide) (by decide)) (by decide) (by decide)) hr1.1) (fun r4 hr4 => ?_)
      exact t_k_De_decode_43 r1.1 r4 r1.2 z61497 (z_w hr4 (by decide) (by decide)) hr1.1
    · have z61500 : y_in (z_gI r1.2 11) (0) (255) := z_w (z_nle2 c61498 (show y_in (256 : Int32) (256) (256) from ⟨by decide, by decide⟩) (iK_f11 hr1.1)) (by decide) (by decide)
      refine z_ok_b (t_f_De_formOfOne (z_gI r1.2 11) r1.2 z61500 hr1.1) (fun r19 hr19 => ?_)
      exact t_k_De_decode_43 r1.1 r19 r1.2 z61497 hr19 hr1.1
  · have z61501 : y_in r1.1 (0) (14) := z_w (z_ne1 c61496 hr1.2 (by decide)) (by decide) (by decide)
    exact z_ok_s ⟨hr1.1, (z_w z61501 (by decide) (by decide))⟩

set_option maxHeartbeats 4000000 in
set_option maxRecDepth 100000 in
theorem t_f_De_registerO (q : z_Sg) (hq : iK q) : z_ok (f_De_registerO q) (fun o : Int32 => y_in o (0) (15)) := by
  unfold f_De_registerO
  refine z_ok_b (t_f_De_extension (1 : Int32) q (z_w (show y_in (1 : Int32) (1) (1) from ⟨by decide, by decide⟩) (by decide) (by decide)) hq) (fun r1 hr1 => ?_)
  exact z_ok_s (z_w (a' := 0) (b' := 15) (z_or 4 (z_and (show y_in (7 : Int32) (7) (7) from ⟨by decide, by decide⟩) (by decide)) hr1 (by decide) (by decide) (by decide) (by decide) (by decide)) (by decide) (by decide))

set_option maxHeartbeats 4000000 in
set_option maxRecDepth 100000 in
theorem t_k_Op_isUpperByte_31 (t0 : Int32) (q : z_Sg) (ht0 : y_in t0 (0) (1)) (hq : iK q) : z_ok (k_Op_isUpperByte_31 t0 q) (fun o : Int32 => y_in o (0) (1)) := by
  unfold k_Op_isUpperByte_31
  refine z_ok_G (z_bi ht0) ?_
  exact z_ok_s ht0

set_option maxHeartbeats 4000000 in
set_option maxRecDepth 100000 in
theorem t_k_Op_isUpperByte_30 (q : z_Sg) (hq : iK q) : z_ok (k_Op_isUpperByte_30 q) (fun o : Int32 => y_in o (0) (1)) := by
  unfold k_Op_isUpperByte_30
  exact t_k_Op_isUpperByte_31 (0 : Int32) q (z_w (show y_in (0 : Int32) (0) (0) from ⟨by decide, by decide⟩) (by decide) (by decide)) hq

set_option maxHeartbeats 4000000 in
set_option maxRecDepth 100000 in
theorem t_f_Op_isUpperByte (x1 : Int32) (x2 : Int32) (q : z_Sg) (hx1 : y_in x1 (0) (15)) (hx2 : y_in x2 (0) (8)) (hq : iK q) : z_ok (f_Op_isUpperByte x1 x2 q) (fun o : Int32 => y_in o (0) (1)) := by
  unfold f_Op_isUpperByte
  refine z_ok_i (fun c61502 => ?_) (fun c61502 => ?_)
  · have z61503 : y_in x2 (1) (1) := z_w (z_eq1 c61502 (show y_in (1 : Int32) (1) (1) from ⟨by decide, by decide⟩)) (by decide) (by decide)
    refine z_ok_i (fun c61504 => ?_) (fun c61504 => ?_)
    · have z61505 : y_in (z_gI q 6) (0) (0) := z_w (z_eq1 c61504 (show y_in (0 : Int32) (0) (0) from ⟨by decide, by decide⟩)) (by decide) (by decide)
      refine z_ok_i (fun c61506 => ?_) (fun c61506 => ?_)
      · have z61507 : y_in x1 (0) (3) := z_w (z_lt1 c61506 hx1 (show y_in (4 : Int32) (4) (4) from ⟨by decide, by decide⟩)) (by decide) (by decide)
        exact t_k_Op_isUpperByte_30 q hq
      · have z61508 : y_in x1 (4) (15) := z_w (z_nlt1 c61506 hx1 (show y_in (4 : Int32) (4) (4) from ⟨by decide, by decide⟩)) (by decide) (by decide)
        refine z_ok_i (fun c61509 => ?_) (fun c61509 => ?_)
        · have z61510 : y_in x1 (8) (15) := z_w (z_le2 c61509 (show y_in (8 : Int32) (8) (8) from ⟨by decide, by decide⟩) z61508) (by decide) (by decide)
          exact t_k_Op_isUpperByte_30 q hq
        · have z61511 : y_in x1 (4) (7) := z_w (z_nle2 c61509 (show y_in (8 : Int32) (8) (8) from ⟨by decide, by decide⟩) z61508) (by decide) (by decide)
          exact t_k_Op_isUpperByte_31 (1 : Int32) q (z_w (show y_in (1 : Int32) (1) (1) from ⟨by decide, by decide⟩) (by decide) (by decide)) hq
    · have z61512 : y_in (z_gI q 6) (1) (255) := z_w (z_ne1 c61504 (iK_f6 hq) (by decide)) (by decide) (by decide)
      exact t_k_Op_isUpperByte_30 q hq
  · exact t_k_Op_isUpperByte_30 q hq

set_option maxHeartbeats 4000000 in
set_option maxRecDepth 100000 in
theorem t_k_Ar_maskOf_20 (t0 : Int64) (q : z_Sg) (hq : iK q) : z_ok (k_Ar_maskOf_20 t0 q) (fun _ : Int64 => True) := by
  unfold k_Ar_maskOf_20
  exact z_ok_s trivial

set_option maxHeartbeats 4000000 in
set_option maxRecDepth 100000 in
theorem t_f_Ar_maskOf (x0 : Int32) (q : z_Sg) (hx0 : y_in x0 (0) (8)) (hq : iK q) : z_ok (f_Ar_maskOf x0 q) (fun _ : Int64 => True) := by
  unfold f_Ar_maskOf
  refine z_ok_i (fun c61513 => ?_) (fun c61513 => ?_)
  · have z61514 : y_in x0 (0) (7) := z_w (z_lt1 c61513 hx0 (show y_in (8 : Int32) (8) (8) from ⟨by decide, by decide⟩)) (by decide) (by decide)
    exact t_k_Ar_maskOf_20 ((z_lshl (1 : Int64) ((8 : Int32) * x0)) - (1 : Int64)) q hq
  · have z61515 : y_in x0 (8) (8) := z_w (z_nlt1 c61513 hx0 (show y_in (8 : Int32) (8) (8) from ⟨by decide, by decide⟩)) (by decide) (by decide)
    exact t_k_Ar_maskOf_20 (-1 : Int64) q hq

set_option maxHeartbeats 4000000 in
set_option maxRecDepth 100000 in
theorem t_f_Op_part (x1 : Int32) (x2 : Int32) (q : z_Sg) (hx1 : y_in x1 (0) (15)) (hx2 : y_in x2 (0) (8)) (hq : iK q) : z_ok (f_Op_part x1 x2 q) (fun _ : Int64 => True) := by
  unfold f_Op_part
  refine z_ok_b (t_f_Op_isUpperByte x1 x2 q hx1 hx2 hq) (fun r1 hr1 => ?_)
  refine z_ok_i (fun c61516 => ?_) (fun c61516 => ?_)
  · have z61517 : y_in r1 (0) (0) := z_w (z_eq1 c61516 (show y_in (0 : Int32) (0) (0) from ⟨by decide, by decide⟩)) (by decide) (by decide)
    refine z_ok_g (z_nbad (z_and (show y_in (15 : Int32) (15) (15) from ⟨by decide, by decide⟩) (by decide)) (by decide)) ?_
    refine z_ok_b (t_f_Ar_maskOf x2 q hx2 hq) (fun r4 hr4 => ?_)
    exact z_ok_s trivial
  · have z61518 : y_in r1 (1) (1) := z_w (z_ne1 c61516 hr1 (by decide)) (by decide) (by decide)
    refine z_ok_g (z_nbad (z_and (show y_in (3 : Int32) (3) (3) from ⟨by decide, by decide⟩) (by decide)) (by decide)) ?_
    exact z_ok_s trivial

set_option maxHeartbeats 4000000 in
set_option maxRecDepth 100000 in
theorem t_k_De_sizeOnStack_14 (t0 : Int32) (q : z_Sg) (ht0 : y_in t0 (2) (8)) (hq : iK q) : z_ok (k_De_sizeOnStack_14 t0 q) (fun o : Int32 => y_in o (2) (8)) := by
  unfold k_De_sizeOnStack_14
  exact z_ok_s ht0

set_option maxHeartbeats 4000000 in
set_option maxRecDepth 100000 in
theorem t_f_De_sizeOnStack (q : z_Sg) (hq : iK q) : z_ok (f_De_sizeOnStack q) (fun o : Int32 => y_in o (2) (8)) := by
  unfold f_De_sizeOnStack
  refine z_ok_b (t_f_De_sizeV q hq) (fun r1 hr1 => ?_)
  refine z_ok_i (fun c61519 => ?_) (fun c61519 => ?_)
  · have z61520 : y_in r1 (2) (2) := z_w (z_eq1 c61519 (show y_in (2 : Int32) (2) (2) from ⟨by decide, by decide⟩)) (by decide) (by decide)
    exact t_k_De_sizeOnStack_14 (2 : Int32) q (z_w (show y_in (2 : Int32) (2) (2) from ⟨by decide, by decide⟩) (by decide) (by decide)) hq
  · have z61521 : y_in r1 (3) (8) := z_w (z_ne1 c61519 hr1 (by decide)) (by decide) (by decide)
    exact t_k_De_sizeOnStack_14 (8 : Int32) q (z_w (show y_in (8 : Int32) (8) (8) from ⟨by decide, by decide⟩) (by decide) (by decide)) hq

set_option maxHeartbeats 4000000 in
set_option maxRecDepth 100000 in
theorem t_k_Sp_find_12_128 (ih16 : Int64 × Int32 × Int32 × Int32 × z_Sg → Option (Int32 × z_Sg)) (x1 : Int64) (x4 : Int32) (x5 : Int32) (x6 : Int32) (q : z_Sg) (hi16 : ∀ (x1' : Int64) (x4' : Int32) (x5' : Int32) (x6' : Int32) (q' : z_Sg), y_in x4' (0) (1) → y_in x5' (1) (1) → y_in x6' (0) (8) → iK q' → (8 - x6'.toInt).toNat < (8 - x6.toInt).toNat → z_ok (ih16 (x1', x4', x5', x6', q')) (fun o : Int32 × z_Sg => iK o.2 ∧ y_in o.1 (-1) (14))) (hx4 : y_in x4 (0) (1)) (hx5 : y_in x5 (1) (1)) (hx6 : y_in x6 (0) (7)) (hq : iK q) : z_ok (k_Sp_find_12_128 ih16 x1 x4 x5 x6 q) (fun o : Int32 × z_Sg => iK o.2 ∧ y_in o.1 (-1) (14)) := by
  unfold k_Sp_find_12_128
  refine z_ok_n (fun n11 en11 => ?_)
  have hn11 : y_in n11 (1) (8) := z_e en11 (z_w (a' := 1) (b' := 8) (z_add hx6 (show y_in (1 : Int32) (1) (1) from ⟨by decide, by decide⟩) (by decide) (by decide)) (by decide) (by decide))
  exact hi16 x1 x4 x5 n11 q hx4 hx5 (z_w hn11 (by decide) (by decide)) hq (z_mu (8) 1 hx6 en11 (by decide) (by decide) (by decide) (by decide))

set_option maxHeartbeats 4000000 in
set_option maxRecDepth 100000 in
theorem t_k_Sp_find_12_124 (t1 : Int64) (t2 : Int64) (t3 : Int32) (q : z_Sg) (ht3 : y_in t3 (12) (12)) (hq : iK q) : z_ok (k_Sp_find_12_124 t1 t2 t3 q) (fun o : Int32 × z_Sg => iK o.2 ∧ y_in o.1 (-1) (14)) := by
  unfold k_Sp_find_12_124
  refine z_ok_b (t_f_Pa_refusal t1 t2 t3 q (z_w ht3 (by decide) (by decide)) hq) (fun r14 hr14 => ?_)
  exact z_ok_s ⟨hr14.1, (z_w hr14.2 (by decide) (by decide))⟩

set_option maxHeartbeats 4000000 in
set_option maxRecDepth 100000 in
theorem t_k_Sp_find_12_69 (ih16 : Int64 × Int32 × Int32 × Int32 × z_Sg → Option (Int32 × z_Sg)) (x1 : Int64) (x4 : Int32) (x5 : Int32) (x6 : Int32) (x7 : Int64) (q : z_Sg) (hi16 : ∀ (x1' : Int64) (x4' : Int32) (x5' : Int32) (x6' : Int32) (q' : z_Sg), y_in x4' (0) (1) → y_in x5' (1) (1) → y_in x6' (0) (8) → iK q' → (8 - x6'.toInt).toNat < (8 - x6.toInt).toNat → z_ok (ih16 (x1', x4', x5', x6', q')) (fun o : Int32 × z_Sg => iK o.2 ∧ y_in o.1 (-1) (14))) (hx4 : y_in x4 (0) (1)) (hx5 : y_in x5 (1) (1)) (hx6 : y_in x6 (0) (7)) (hq : iK q) : z_ok (k_Sp_find_12_69 ih16 x1 x4 x5 x6 x7 q) (fun o : Int32 × z_Sg => iK o.2 ∧ y_in o.1 (-1) (14)) := by
  unfold k_Sp_find_12_69
  refine z_ok_b (t_f_Pa_locate x7 x4 q hq) (fun r6 hr6 => ?_)
  refine z_ok_g (z_nbad hx6 (by decide)) ?_
  refine z_ok_n (fun q8 eq8 => ?_)
  have hq8 : iK q8 := by rw [eq8]; exact (iK_sM hq)
  refine z_ok_g (z_nbad hx6 (by decide)) ?_
  refine z_ok_i (fun c61522 => ?_) (fun c61522 => ?_)
  · exact t_k_Sp_find_12_128 ih16 x1 x4 x5 x6 q8 hi16 hx4 hx5 hx6 hq8
  · refine z_ok_g (z_nbad hx6 (by decide)) ?_
    refine z_ok_i (fun c61523 => ?_) (fun c61523 => ?_)
    · exact absurd c61523 (z_deadQ hx5 (show y_in (0 : Int32) (0) (0) from ⟨by decide, by decide⟩) (by decide))
    · exact t_k_Sp_find_12_124 x7 (z_gM q8 3 x6.toNatClampNeg) (12 : Int32) q8 (show y_in (12 : Int32) (12) (12) from ⟨by decide, by decide⟩) hq8

set_option maxHeartbeats 4000000 in
set_option maxRecDepth 100000 in
theorem t_kb_Sp_find_12_16 (ih16 : Int64 × Int32 × Int32 × Int32 × z_Sg → Option (Int32 × z_Sg)) (x1 : Int64) (x4 : Int32) (x5 : Int32) (x6 : Int32) (q : z_Sg) (hi16 : ∀ (x1' : Int64) (x4' : Int32) (x5' : Int32) (x6' : Int32) (q' : z_Sg), y_in x4' (0) (1) → y_in x5' (1) (1) → y_in x6' (0) (8) → iK q' → (8 - x6'.toInt).toNat < (8 - x6.toInt).toNat → z_ok (ih16 (x1', x4', x5', x6', q')) (fun o : Int32 × z_Sg => iK o.2 ∧ y_in o.1 (-1) (14))) (hx4 : y_in x4 (0) (1)) (hx5 : y_in x5 (1) (1)) (hx6 : y_in x6 (0) (8)) (hq : iK q) : z_ok (kb_Sp_find_12_16 ih16 x1 x4 x5 x6 q) (fun o : Int32 × z_Sg => iK o.2 ∧ y_in o.1 (-1) (14)) := by
  unfold kb_Sp_find_12_16
  refine z_ok_i (fun c61524 => ?_) (fun c61524 => ?_)
  · exact z_ok_s ⟨hq, (z_w (show y_in (-1 : Int32) (-1) (-1) from ⟨by decide, by decide⟩) (by decide) (by decide))⟩
  · have z61525 : y_in (z_gI q 17) (1) (8) := z_w (z_nle1 c61524 (iK_f17 hq) hx6) (by decide) (by decide)
    have z61526 : y_in x6 (0) (7) := z_w (z_nle2 c61524 (iK_f17 hq) hx6) (by decide) (by decide)
    refine z_ok_n (fun n4 en4 => ?_)
    refine z_ok_i (fun c61527 => ?_) (fun c61527 => ?_)
    · have z61528 : y_in x6 (0) (0) := z_w (z_le1 c61527 z61526 (show y_in (0 : Int32) (0) (0) from ⟨by decide, by decide⟩)) (by decide) (by decide)
      exact t_k_Sp_find_12_69 ih16 x1 x4 x5 x6 n4 q hi16 hx4 hx5 (z_w z61528 (by decide) (by decide)) hq
    · have z61529 : y_in x6 (1) (7) := z_w (z_nle1 c61527 z61526 (show y_in (0 : Int32) (0) (0) from ⟨by decide, by decide⟩)) (by decide) (by decide)
      refine z_ok_i (fun c61530 => ?_) (fun c61530 => ?_)
      · exact t_k_Sp_find_12_69 ih16 x1 x4 x5 x6 n4 q hi16 hx4 hx5 (z_w z61529 (by decide) (by decide)) hq
      · refine z_ok_g (z_nbad (z_w (a' := 0) (b' := 6) (z_sub z61529 (show y_in (1 : Int32) (1) (1) from ⟨by decide, by decide⟩) (by decide) (by decide)) (by decide) (by decide)) (by decide)) ?_
        refine z_ok_g (z_nbad (z_w z61529 (by decide) (Int.le_refl _)) (by decide)) ?_
        refine z_ok_n (fun q18 eq18 => ?_)
        have hq18 : iK q18 := by rw [eq18]; exact (iK_sM hq)
        exact t_k_Sp_find_12_128 ih16 x1 x4 x5 x6 q18 hi16 hx4 hx5 (z_w z61529 (by decide) (by decide)) hq18

set_option maxHeartbeats 4000000 in
set_option maxRecDepth 100000 in
theorem t_k_Sp_find_12_16 (x1 : Int64) (x4 : Int32) (x5 : Int32) (x6 : Int32) (q : z_Sg) (hx4 : y_in x4 (0) (1)) (hx5 : y_in x5 (1) (1)) (hx6 : y_in x6 (0) (0)) (hq : iK q) : z_ok (k_Sp_find_12_16 x1 x4 x5 x6 q) (fun o : Int32 × z_Sg => iK o.2 ∧ y_in o.1 (-1) (14)) := by
  unfold k_Sp_find_12_16
  refine z_ok_l (fun a : Int64 × Int32 × Int32 × Int32 × z_Sg => y_in a.2.1 (0) (1) ∧ y_in a.2.2.1 (1) (1) ∧ y_in a.2.2.2.1 (0) (8) ∧ iK a.2.2.2.2) (fun a => (8 - a.2.2.2.1.toInt).toNat) ?_ (x1, x4, x5, x6, q) ⟨hx4, hx5, (z_w hx6 (by decide) (by decide)), hq⟩ (by show ((8 - x6.toInt).toNat) < 2000; have z1 := hx6.1; have z2 := hx6.2; omega)
  intro ih a ha hih
  exact t_kb_Sp_find_12_16 ih a.1 a.2.1 a.2.2.1 a.2.2.2.1 a.2.2.2.2 (fun x1' x4' x5' x6' q' hx4' hx5' hx6' hq' hm => hih (x1', x4', x5', x6', q') ⟨hx4', hx5', hx6', hq'⟩ hm) ha.1 ha.2.1 ha.2.2.1 ha.2.2.2

set_option maxHeartbeats 4000000 in
set_option maxRecDepth 100000 in
theorem t_f_Sp_find_12 (x1 : Int64) (x3 : Int32) (x4 : Int32) (x5 : Int32) (q : z_Sg) (hx3 : y_in x3 (2) (8)) (hx4 : y_in x4 (0) (1)) (hx5 : y_in x5 (1) (1)) (hq : iK q) : z_ok (f_Sp_find_12 x1 x3 x4 x5 q) (fun o : Int32 × z_Sg => iK o.2 ∧ y_in o.1 (-1) (14)) := by
  unfold f_Sp_find_12
  refine z_ok_b (t_f_Ma_min (e := 2) (f := 8) x3 (8 : Int32) q hx3 (show y_in (8 : Int32) (8) (8) from ⟨by decide, by decide⟩) (by decide) (by decide)) (fun r1 hr1 => ?_)
  refine z_ok_n (fun q2 eq2 => ?_)
  have hq2 : iK q2 := by rw [eq2]; exact (iK_sI17 hq (z_w hr1 (by decide) (by decide)))
  exact t_k_Sp_find_12_16 x1 x4 x5 (0 : Int32) q2 hx4 hx5 (show y_in (0 : Int32) (0) (0) from ⟨by decide, by decide⟩) hq2

set_option maxHeartbeats 4000000 in
set_option maxRecDepth 100000 in
theorem t_kb_Sp_put_12_2 (ih2 : Int64 × Int32 × z_Sg → Option z_Sg) (x1 : Int64) (x3 : Int32) (q : z_Sg) (hi2 : ∀ (x1' : Int64) (x3' : Int32) (q' : z_Sg), y_in x3' (0) (8) → iK q' → (8 - x3'.toInt).toNat < (8 - x3.toInt).toNat → z_ok (ih2 (x1', x3', q')) (fun o : z_Sg => iK o)) (hx3 : y_in x3 (0) (8)) (hq : iK q) : z_ok (kb_Sp_put_12_2 ih2 x1 x3 q) (fun o : z_Sg => iK o) := by
  unfold kb_Sp_put_12_2
  refine z_ok_i (fun c61531 => ?_) (fun c61531 => ?_)
  · exact z_ok_s hq
  · have z61532 : y_in (z_gI q 17) (1) (8) := z_w (z_nle1 c61531 (iK_f17 hq) hx3) (by decide) (by decide)
    have z61533 : y_in x3 (0) (7) := z_w (z_nle2 c61531 (iK_f17 hq) hx3) (by decide) (by decide)
    refine z_ok_g (z_nbad z61533 (by decide)) ?_
    refine z_ok_b (t_f_Pa_putByte (z_gM q 3 x3.toNatClampNeg) (z_lushr x1 ((8 : Int32) * x3)) q hq) (fun r3 hr3 => ?_)
    refine z_ok_n (fun n4 en4 => ?_)
    have hn4 : y_in n4 (1) (8) := z_e en4 (z_w (a' := 1) (b' := 8) (z_add z61533 (show y_in (1 : Int32) (1) (1) from ⟨by decide, by decide⟩) (by decide) (by decide)) (by decide) (by decide))
    exact hi2 x1 n4 r3 (z_w hn4 (by decide) (by decide)) hr3 (z_mu (8) 1 z61533 en4 (by decide) (by decide) (by decide) (by decide))

set_option maxHeartbeats 4000000 in
set_option maxRecDepth 100000 in
theorem t_k_Sp_put_12_2 (x1 : Int64) (x3 : Int32) (q : z_Sg) (hx3 : y_in x3 (0) (0)) (hq : iK q) : z_ok (k_Sp_put_12_2 x1 x3 q) (fun o : z_Sg => iK o) := by
  unfold k_Sp_put_12_2
  refine z_ok_l (fun a : Int64 × Int32 × z_Sg => y_in a.2.1 (0) (8) ∧ iK a.2.2) (fun a => (8 - a.2.1.toInt).toNat) ?_ (x1, x3, q) ⟨(z_w hx3 (by decide) (by decide)), hq⟩ (by show ((8 - x3.toInt).toNat) < 2000; have z1 := hx3.1; have z2 := hx3.2; omega)
  intro ih a ha hih
  exact t_kb_Sp_put_12_2 ih a.1 a.2.1 a.2.2 (fun x1' x3' q' hx3' hq' hm => hih (x1', x3', q') ⟨hx3', hq'⟩ hm) ha.1 ha.2

set_option maxHeartbeats 4000000 in
set_option maxRecDepth 100000 in
theorem t_f_Sp_put_12 (x1 : Int64) (q : z_Sg) (hq : iK q) : z_ok (f_Sp_put_12 x1 q) (fun o : z_Sg => iK o) := by
  unfold f_Sp_put_12
  exact t_k_Sp_put_12_2 x1 (0 : Int32) q (show y_in (0 : Int32) (0) (0) from ⟨by decide, by decide⟩) hq

set_option maxHeartbeats 4000000 in
set_option maxRecDepth 100000 in
theorem t_k_Fl_push_53 (x6 : Int32) (q : z_Sg) (hx6 : y_in x6 (-1) (14)) (hq : iK q) : z_ok (k_Fl_push_53 x6 q) (fun o : Int32 × z_Sg => iK o.2 ∧ y_in o.1 (-1) (14)) := by
  unfold k_Fl_push_53
  exact z_ok_s ⟨hq, hx6⟩

set_option maxHeartbeats 4000000 in
set_option maxRecDepth 100000 in
theorem t_f_Fl_push (x1 : Int64) (x3 : Int32) (q : z_Sg) (hx3 : y_in x3 (2) (8)) (hq : iK q) : z_ok (f_Fl_push x1 x3 q) (fun o : Int32 × z_Sg => iK o.2 ∧ y_in o.1 (-1) (14)) := by
  unfold f_Fl_push
  refine z_ok_g (z_nbad (z_w (show y_in (4 : Int32) (4) (4) from ⟨by decide, by decide⟩) (by decide) (Int.le_refl _)) (by decide)) ?_
  refine z_ok_n (fun n2 en2 => ?_)
  refine z_ok_b (t_f_Sp_find_12 n2 x3 (1 : Int32) (1 : Int32) q hx3 (z_w (show y_in (1 : Int32) (1) (1) from ⟨by decide, by decide⟩) (by decide) (by decide)) (show y_in (1 : Int32) (1) (1) from ⟨by decide, by decide⟩) hq) (fun r3 hr3 => ?_)
  refine z_ok_i (fun c61534 => ?_) (fun c61534 => ?_)
  · have z61535 : y_in r3.1 (-1) (-1) := z_w (z_eq1 c61534 (show y_in (-1 : Int32) (-1) (-1) from ⟨by decide, by decide⟩)) (by decide) (by decide)
    refine z_ok_b (t_f_Sp_put_12 x1 r3.2 hr3.1) (fun r5 hr5 => ?_)
    refine z_ok_g (z_nbad (z_w (show y_in (4 : Int32) (4) (4) from ⟨by decide, by decide⟩) (by decide) (Int.le_refl _)) (by decide)) ?_
    refine z_ok_n (fun q7 eq7 => ?_)
    have hq7 : iK q7 := by rw [eq7]; exact (iK_sM hr5)
    exact t_k_Fl_push_53 r3.1 q7 (z_w z61535 (by decide) (by decide)) hq7
  · have z61536 : y_in r3.1 (0) (14) := z_w (z_ne1 c61534 hr3.2 (by decide)) (by decide) (by decide)
    exact t_k_Fl_push_53 r3.1 r3.2 (z_w z61536 (by decide) (by decide)) hr3.1

set_option maxHeartbeats 4000000 in
set_option maxRecDepth 100000 in
theorem t_f_Fl_findTop (x1 : Int32) (q : z_Sg) (hx1 : y_in x1 (2) (8)) (hq : iK q) : z_ok (f_Fl_findTop x1 q) (fun o : Int32 × z_Sg => iK o.2 ∧ y_in o.1 (-1) (14)) := by
  unfold f_Fl_findTop
  refine z_ok_g (z_nbad (z_w (show y_in (4 : Int32) (4) (4) from ⟨by decide, by decide⟩) (by decide) (Int.le_refl _)) (by decide)) ?_
  refine z_ok_b (t_f_Sp_find_12 (z_gM q 0 (4 : Int32).toNatClampNeg) x1 (0 : Int32) (1 : Int32) q hx1 (z_w (show y_in (0 : Int32) (0) (0) from ⟨by decide, by decide⟩) (by decide) (by decide)) (show y_in (1 : Int32) (1) (1) from ⟨by decide, by decide⟩) hq) (fun r2 hr2 => ?_)
  exact z_ok_s ⟨hr2.1, hr2.2⟩

set_option maxHeartbeats 4000000 in
set_option maxRecDepth 100000 in
theorem t_kb_Sp_value_12_4 (ih4 : Int64 × Int32 → Option Int64) (x1 : Int64) (x3 : Int32) (q : z_Sg) (hi4 : ∀ (x1' : Int64) (x3' : Int32), y_in x3' (0) (8) → (8 - x3'.toInt).toNat < (8 - x3.toInt).toNat → z_ok (ih4 (x1', x3')) (fun _ : Int64 => True)) (hx3 : y_in x3 (0) (8)) (hq : iK q) : z_ok (kb_Sp_value_12_4 ih4 x1 x3 q) (fun _ : Int64 => True) := by
  unfold kb_Sp_value_12_4
  refine z_ok_i (fun c61537 => ?_) (fun c61537 => ?_)
  · exact z_ok_s trivial
  · have z61538 : y_in (z_gI q 17) (1) (8) := z_w (z_nle1 c61537 (iK_f17 hq) hx3) (by decide) (by decide)
    have z61539 : y_in x3 (0) (7) := z_w (z_nle2 c61537 (iK_f17 hq) hx3) (by decide) (by decide)
    refine z_ok_g (z_nbad z61539 (by decide)) ?_
    refine z_ok_b (t_f_Pa_byteAt (z_gM q 3 x3.toNatClampNeg) q hq) (fun r3 hr3 => ?_)
    refine z_ok_n (fun n4 en4 => ?_)
    refine z_ok_n (fun n5 en5 => ?_)
    have hn5 : y_in n5 (1) (8) := z_e en5 (z_w (a' := 1) (b' := 8) (z_add z61539 (show y_in (1 : Int32) (1) (1) from ⟨by decide, by decide⟩) (by decide) (by decide)) (by decide) (by decide))
    exact hi4 n4 n5 (z_w hn5 (by decide) (by decide)) (z_mu (8) 1 z61539 en5 (by decide) (by decide) (by decide) (by decide))

set_option maxHeartbeats 4000000 in
set_option maxRecDepth 100000 in
theorem t_k_Sp_value_12_4 (x1 : Int64) (x3 : Int32) (q : z_Sg) (hx1 : y_il x1 (0) (0)) (hx3 : y_in x3 (0) (0)) (hq : iK q) : z_ok (k_Sp_value_12_4 x1 x3 q) (fun _ : Int64 => True) := by
  unfold k_Sp_value_12_4
  refine z_ok_l (fun a : Int64 × Int32 => y_in a.2 (0) (8)) (fun a => (8 - a.2.toInt).toNat) ?_ (x1, x3) (z_w hx3 (by decide) (by decide)) (by show ((8 - x3.toInt).toNat) < 2000; have z1 := hx3.1; have z2 := hx3.2; omega)
  intro ih a ha hih
  exact t_kb_Sp_value_12_4 ih a.1 a.2 q (fun x1' x3' hx3' hm => hih (x1', x3') hx3' hm) ha hq

set_option maxHeartbeats 4000000 in
set_option maxRecDepth 100000 in
theorem t_f_Sp_value_12 (q : z_Sg) (hq : iK q) : z_ok (f_Sp_value_12 q) (fun _ : Int64 => True) := by
  unfold f_Sp_value_12
  exact t_k_Sp_value_12_4 (0 : Int64) (0 : Int32) q (show y_il (0 : Int64) (0) (0) from ⟨by decide, by decide⟩) (show y_in (0 : Int32) (0) (0) from ⟨by decide, by decide⟩) hq

set_option maxHeartbeats 4000000 in
set_option maxRecDepth 100000 in
theorem t_k_Op_putPart_86 (x1 : Int32) (x2 : Int64) (x5 : Int64) (t0 : Int64) (q : z_Sg) (hx1 : y_in x1 (0) (15)) (hq : iK q) : z_ok (k_Op_putPart_86 x1 x2 x5 t0 q) (fun o : z_Sg => iK o) := by
  unfold k_Op_putPart_86
  refine z_ok_g (z_nbad (z_and (show y_in (15 : Int32) (15) (15) from ⟨by decide, by decide⟩) (by decide)) (by decide)) ?_
  refine z_ok_n (fun q6 eq6 => ?_)
  have hq6 : iK q6 := by rw [eq6]; exact (iK_sM hq)
  exact z_ok_s hq6

set_option maxHeartbeats 4000000 in
set_option maxRecDepth 100000 in
theorem t_f_Op_putPart (x1 : Int32) (x2 : Int64) (x4 : Int32) (q : z_Sg) (hx1 : y_in x1 (0) (15)) (hx4 : y_in x4 (0) (8)) (hq : iK q) : z_ok (f_Op_putPart x1 x2 x4 q) (fun o : z_Sg => iK o) := by
  unfold f_Op_putPart
  refine z_ok_b (t_f_Op_isUpperByte x1 x4 q hx1 hx4 hq) (fun r1 hr1 => ?_)
  refine z_ok_i (fun c61540 => ?_) (fun c61540 => ?_)
  · have z61541 : y_in r1 (0) (0) := z_w (z_eq1 c61540 (show y_in (0 : Int32) (0) (0) from ⟨by decide, by decide⟩)) (by decide) (by decide)
    refine z_ok_b (t_f_Ar_maskOf x4 q hx4 hq) (fun r3 hr3 => ?_)
    refine z_ok_i (fun c61542 => ?_) (fun c61542 => ?_)
    · have z61543 : y_in x4 (4) (8) := z_w (z_le2 c61542 (show y_in (4 : Int32) (4) (4) from ⟨by decide, by decide⟩) hx4) (by decide) (by decide)
      exact t_k_Op_putPart_86 x1 x2 r3 (0 : Int64) q hx1 hq
    · have z61544 : y_in x4 (0) (3) := z_w (z_nle2 c61542 (show y_in (4 : Int32) (4) (4) from ⟨by decide, by decide⟩) hx4) (by decide) (by decide)
      refine z_ok_g (z_nbad (z_and (show y_in (15 : Int32) (15) (15) from ⟨by decide, by decide⟩) (by decide)) (by decide)) ?_
      exact t_k_Op_putPart_86 x1 x2 r3 ((z_gM q 0 (x1 &&& (15 : Int32)).toNatClampNeg) &&& (r3 ^^^ (-1 : Int64))) q hx1 hq
  · have z61545 : y_in r1 (1) (1) := z_w (z_ne1 c61540 hr1 (by decide)) (by decide) (by decide)
    refine z_ok_g (z_nbad (z_and (show y_in (3 : Int32) (3) (3) from ⟨by decide, by decide⟩) (by decide)) (by decide)) ?_
    refine z_ok_n (fun n9 en9 => ?_)
    refine z_ok_g (z_nbad (z_and (show y_in (3 : Int32) (3) (3) from ⟨by decide, by decide⟩) (by decide)) (by decide)) ?_
    refine z_ok_n (fun q11 eq11 => ?_)
    have hq11 : iK q11 := by rw [eq11]; exact (iK_sM hq)
    exact z_ok_s hq11

set_option maxHeartbeats 4000000 in
set_option maxRecDepth 100000 in
theorem t_k_Fl_popRegister_49 (x3 : Int32) (q : z_Sg) (hx3 : y_in x3 (-1) (14)) (hq : iK q) : z_ok (k_Fl_popRegister_49 x3 q) (fun o : Int32 × z_Sg => iK o.2 ∧ y_in o.1 (-1) (14)) := by
  unfold k_Fl_popRegister_49
  exact z_ok_s ⟨hq, hx3⟩

set_option maxHeartbeats 4000000 in
set_option maxRecDepth 100000 in
theorem t_f_Fl_popRegister (x1 : Int32) (q : z_Sg) (hx1 : y_in x1 (0) (15)) (hq : iK q) : z_ok (f_Fl_popRegister x1 q) (fun o : Int32 × z_Sg => iK o.2 ∧ y_in o.1 (-1) (14)) := by
  unfold f_Fl_popRegister
  refine z_ok_b (t_f_De_sizeOnStack q hq) (fun r1 hr1 => ?_)
  refine z_ok_b (t_f_Fl_findTop r1 q hr1 hq) (fun r2 hr2 => ?_)
  refine z_ok_i (fun c61546 => ?_) (fun c61546 => ?_)
  · have z61547 : y_in r2.1 (-1) (-1) := z_w (z_eq1 c61546 (show y_in (-1 : Int32) (-1) (-1) from ⟨by decide, by decide⟩)) (by decide) (by decide)
    refine z_ok_g (z_nbad (z_w (show y_in (4 : Int32) (4) (4) from ⟨by decide, by decide⟩) (by decide) (Int.le_refl _)) (by decide)) ?_
    refine z_ok_g (z_nbad (z_w (show y_in (4 : Int32) (4) (4) from ⟨by decide, by decide⟩) (by decide) (Int.le_refl _)) (by decide)) ?_
    refine z_ok_n (fun q6 eq6 => ?_)
    have hq6 : iK q6 := by rw [eq6]; exact (iK_sM hr2.1)
    refine z_ok_b (t_f_Sp_value_12 q6 hq6) (fun r7 hr7 => ?_)
    refine z_ok_b (t_f_Op_putPart x1 r7 r1 q6 hx1 (z_w hr1 (by decide) (by decide)) hq6) (fun r8 hr8 => ?_)
    exact t_k_Fl_popRegister_49 r2.1 r8 (z_w z61547 (by decide) (by decide)) hr8
  · have z61548 : y_in r2.1 (0) (14) := z_w (z_ne1 c61546 hr2.2 (by decide)) (by decide) (by decide)
    exact t_k_Fl_popRegister_49 r2.1 r2.2 (z_w z61548 (by decide) (by decide)) hr2.1

set_option maxHeartbeats 4000000 in
set_option maxRecDepth 100000 in
theorem t_k_Ar_holds_239 (t0 : Int32) (q : z_Sg) (ht0 : y_in t0 (0) (1)) (hq : iK q) : z_ok (k_Ar_holds_239 t0 q) (fun o : Int32 => y_in o (0) (1)) := by
  unfold k_Ar_holds_239
  refine z_ok_G (z_bi ht0) ?_
  exact z_ok_s ht0

set_option maxHeartbeats 4000000 in
set_option maxRecDepth 100000 in
theorem t_k_Ar_holds_231 (t0 : Int32) (t1 : Int32) (q : z_Sg) (ht0 : y_in t0 (0) (1)) (ht1 : y_in t1 (0) (1)) (hq : iK q) : z_ok (k_Ar_holds_231 t0 t1 q) (fun o : Int32 => y_in o (0) (1)) := by
  unfold k_Ar_holds_231
  refine z_ok_i (fun c61549 => ?_) (fun c61549 => ?_)
  · exact t_k_Ar_holds_239 (0 : Int32) q (z_w (show y_in (0 : Int32) (0) (0) from ⟨by decide, by decide⟩) (by decide) (by decide)) hq
  · exact t_k_Ar_holds_239 (1 : Int32) q (z_w (show y_in (1 : Int32) (1) (1) from ⟨by decide, by decide⟩) (by decide) (by decide)) hq

set_option maxHeartbeats 4000000 in
set_option maxRecDepth 100000 in
theorem t_k_Ar_holds_218 (x1 : Int32) (x4 : Int32) (q : z_Sg) (hx1 : y_in x1 (-256) (511)) (hx4 : y_in x4 (0) (1)) (hq : iK q) : z_ok (k_Ar_holds_218 x1 x4 q) (fun o : Int32 => y_in o (0) (1)) := by
  unfold k_Ar_holds_218
  refine z_ok_i (fun c61550 => ?_) (fun c61550 => ?_)
  · have z61551 : y_in (x1 &&& (1 : Int32)) (0) (0) := z_w (z_eq1 c61550 (show y_in (0 : Int32) (0) (0) from ⟨by decide, by decide⟩)) (by decide) (by decide)
    exact t_k_Ar_holds_231 x4 (0 : Int32) q hx4 (z_w (show y_in (0 : Int32) (0) (0) from ⟨by decide, by decide⟩) (by decide) (by decide)) hq
  · have z61552 : y_in (x1 &&& (1 : Int32)) (1) (1) := z_w (z_ne1 c61550 (z_and (show y_in (1 : Int32) (1) (1) from ⟨by decide, by decide⟩) (by decide)) (by decide)) (by decide) (by decide)
    exact t_k_Ar_holds_231 x4 (1 : Int32) q hx4 (z_w (show y_in (1 : Int32) (1) (1) from ⟨by decide, by decide⟩) (by decide) (by decide)) hq

set_option maxHeartbeats 4000000 in
set_option maxRecDepth 100000 in
theorem t_k_Ar_holds_105 (x1 : Int32) (t0 : Int32) (q : z_Sg) (hx1 : y_in x1 (-256) (511)) (ht0 : y_in t0 (0) (1)) (hq : iK q) : z_ok (k_Ar_holds_105 x1 t0 q) (fun o : Int32 => y_in o (0) (1)) := by
  unfold k_Ar_holds_105
  exact t_k_Ar_holds_218 x1 t0 q hx1 ht0 hq

set_option maxHeartbeats 4000000 in
set_option maxRecDepth 100000 in
theorem t_k_Ar_holds_121 (x1 : Int32) (t0 : Int32) (q : z_Sg) (hx1 : y_in x1 (-256) (511)) (ht0 : y_in t0 (0) (1)) (hq : iK q) : z_ok (k_Ar_holds_121 x1 t0 q) (fun o : Int32 => y_in o (0) (1)) := by
  unfold k_Ar_holds_121
  exact t_k_Ar_holds_218 x1 t0 q hx1 ht0 hq
