set_option maxHeartbeats 4000000 in
set_option maxRecDepth 100000 in
theorem t_k_Mo_store_17 (W : Nat) (S : z_SS) (q : z_Sg) (hq : iM W S q) (hW : W + 0 ≤ 16) : z_ok (k_Mo_store_17 q) (fun o : Int32 × z_Sg => iM W S o.2 ∧ y_in o.1 (0) (1)) := by
  unfold k_Mo_store_17
  exact z_ok_s ⟨hq, (z_w (show y_in (0 : Int32) (0) (0) from ⟨by decide, by decide⟩) (by decide) (by decide))⟩




set_option maxHeartbeats 4000000 in
set_option maxRecDepth 100000 in
theorem t_f_Mo_store (W : Nat) (S : z_SS) (x1 : Int32) (x2 : Int32) (x3 : Int32) (q : z_Sg) (hq : iM W S q) (hW : W + 0 ≤ 16) : z_ok (f_Mo_store x1 x2 x3 q) (fun o : Int32 × z_Sg => iM W S o.2 ∧ y_in o.1 (0) (1)) := by
  unfold f_Mo_store
  refine z_ok_i (fun c0 => t_k_Mo_store_17 W S q hq hW) (fun c0 => ?_)
  refine z_ok_i (fun c1 => ?_) (fun c1 => t_k_Mo_store_17 W S q hq hW)
  have h1 := (z_add8 c0).mp c1
  obtain ⟨n, hn, rfl⟩ := nI_of c0
  have h1 : n ≤ 32760 := (nI_leI hn (by decide)).mp h1
  unfold k_Mo_store_22
  refine z_ok_l (fun a : Int32 × Int32 × Int32 × Int32 × z_Sg => a.1 = nI n ∧ (∃ i : Nat, i ≤ 8 ∧ a.2.2.2.1 = nI i) ∧ iM W S a.2.2.2.2) (fun a => 8 - a.2.2.2.1.toNatClampNeg) ?_ (nI n, x2, x3, 0, q) ⟨rfl, ⟨0, by omega, rfl⟩, hq⟩ (by show 8 - _ < 2000; omega)
  rintro ih ⟨a1, a2, a3, a4, a5⟩ ⟨en, ⟨i, hi, ei⟩, ha⟩ hih
  dsimp only at en ei ha hih ⊢
  subst ei
  subst en
  have key : ∀ t : Int32, i < 8 → z_ok (k_Mo_store_48 ih (nI n) a2 a3 (nI i) (nI n + nI i) t a5) (fun o : Int32 × z_Sg => iM W S o.2 ∧ y_in o.1 (0) (1)) := by
    intro t h8
    unfold k_Mo_store_48
    refine z_ok_g (by rw [nI_add]; exact vp_in_nI (by omega) (by decide)) ?_
    refine z_ok_n (fun q6 eq6 => ?_)
    refine z_ok_n (fun n7 en7 => ?_)
    refine hih (nI n, a2, a3, n7, q6) ⟨rfl, ⟨i + 1, by omega, by rw [en7]; exact nI_1 i⟩, by rw [eq6]; exact iM_sN0 ha⟩ ?_
    show 8 - n7.toNatClampNeg < 8 - (nI i).toNatClampNeg
    rw [en7, nI_1, z_clp (by omega), z_clp (by omega)]
    omega
  unfold kb_Mo_store_22
  refine z_ok_i (fun c8 => z_ok_s ⟨ha, (show y_in (1 : Int32) 0 1 from ⟨by decide, by decide⟩)⟩) (fun c8 => ?_)
  have h8 : i < 8 := Nat.not_le.mp (fun h => c8 ((z_i8 (by omega)).mpr h))
  exact z_ok_i (fun _ => key _ h8) (fun _ => key _ h8)

set_option maxHeartbeats 4000000 in
set_option maxRecDepth 100000 in
theorem t_k_Mo_byteAt_29 (W : Nat) (S : z_SS) (t0 : Int32) (q : z_Sg) (ht0 : y_in t0 (0) (255)) (hq : iM W S q) (hW : W + 0 ≤ 16) : z_ok (k_Mo_byteAt_29 t0 q) (fun o : Int32 => y_in o (0) (255)) := by
  unfold k_Mo_byteAt_29
  exact z_ok_s ht0

set_option maxHeartbeats 4000000 in
set_option maxRecDepth 100000 in
theorem t_k_Mo_byteAt_14 (W : Nat) (S : z_SS) (q : z_Sg) (hq : iM W S q) (hW : W + 0 ≤ 16) : z_ok (k_Mo_byteAt_14 q) (fun o : Int32 => y_in o (0) (255)) := by
  unfold k_Mo_byteAt_14
  exact t_k_Mo_byteAt_29 W S (0 : Int32) q (z_w (show y_in (0 : Int32) (0) (0) from ⟨by decide, by decide⟩) (by decide) (by decide)) hq hW

set_option maxHeartbeats 4000000 in
set_option maxRecDepth 100000 in
theorem t_f_Mo_byteAt (W : Nat) (S : z_SS) (x1 : Int64) (q : z_Sg) (hq : iM W S q) (hW : W + 0 ≤ 16) : z_ok (f_Mo_byteAt x1 q) (fun o : Int32 => y_in o (0) (255)) := by
  unfold f_Mo_byteAt k_Mo_byteAt_14 k_Mo_byteAt_29
  refine z_ok_i (fun c1 => z_ok_s (show y_in (0 : Int32) 0 255 from ⟨by decide, by decide⟩)) (fun c1 => ?_)
  refine z_ok_i (fun c2 => ?_) (fun c2 => z_ok_s (show y_in (0 : Int32) 0 255 from ⟨by decide, by decide⟩))
  obtain ⟨n, -, -, -, -, -, hb⟩ := z_ix c1 c2
  refine z_ok_g hb ?_
  exact z_ok_s (z_and (show y_in (255 : Int32) 255 255 from ⟨by decide, by decide⟩) (by decide))

set_option maxHeartbeats 4000000 in
set_option maxRecDepth 100000 in
theorem t_kb_Mo_eight_5 (W : Nat) (S : z_SS) (ih5 : Int64 × Int64 × Int32 → Option Int64) (x1 : Int64) (x3 : Int64) (x5 : Int32) (q : z_Sg) (hi5 : ∀ (x1' : Int64) (x3' : Int64) (x5' : Int32), y_in x5' (0) (8) → (8 - x5'.toInt).toNat < (8 - x5.toInt).toNat → z_ok (ih5 (x1', x3', x5')) (fun _ : Int64 => True)) (hx5 : y_in x5 (0) (8)) (hq : iM W S q) (hW : W + 0 ≤ 16) : z_ok (kb_Mo_eight_5 ih5 x1 x3 x5 q) (fun _ : Int64 => True) := by
  unfold kb_Mo_eight_5
  refine z_ok_i (fun c233948 => ?_) (fun c233948 => ?_)
  · have z233949 : y_in x5 (8) (8) := z_w (z_le2 c233948 (show y_in (8 : Int32) (8) (8) from ⟨by decide, by decide⟩) hx5) (by decide) (by decide)
    exact z_ok_s trivial
  · have z233950 : y_in x5 (0) (7) := z_w (z_nle2 c233948 (show y_in (8 : Int32) (8) (8) from ⟨by decide, by decide⟩) hx5) (by decide) (by decide)
    refine z_ok_b (t_f_Mo_byteAt W S (x1 + x5.toInt64) q hq (by omega)) (fun r2 hr2 => ?_)
    refine z_ok_n (fun n3 en3 => ?_)
    refine z_ok_n (fun n4 en4 => ?_)
    have hn4 : y_in n4 (1) (8) := z_e en4 (z_w (a' := 1) (b' := 8) (z_add z233950 (show y_in (1 : Int32) (1) (1) from ⟨by decide, by decide⟩) (by decide) (by decide)) (by decide) (by decide))
    exact hi5 x1 n3 n4 (z_w hn4 (by decide) (by decide)) (z_mu (8) 1 z233950 en4 (by decide) (by decide) (by decide) (by decide))

set_option maxHeartbeats 4000000 in
set_option maxRecDepth 100000 in
theorem t_k_Mo_eight_5 (W : Nat) (S : z_SS) (x1 : Int64) (x3 : Int64) (x5 : Int32) (q : z_Sg) (hx3 : y_il x3 (0) (0)) (hx5 : y_in x5 (0) (0)) (hq : iM W S q) (hW : W + 0 ≤ 16) : z_ok (k_Mo_eight_5 x1 x3 x5 q) (fun _ : Int64 => True) := by
  unfold k_Mo_eight_5
  refine z_ok_l (fun a : Int64 × Int64 × Int32 => y_in a.2.2 (0) (8)) (fun a => (8 - a.2.2.toInt).toNat) ?_ (x1, x3, x5) (z_w hx5 (by decide) (by decide)) (by show ((8 - x5.toInt).toNat) < 2000; have z1 := hx5.1; have z2 := hx5.2; omega)
  intro ih a ha hih
  exact t_kb_Mo_eight_5 W S ih a.1 a.2.1 a.2.2 q (fun x1' x3' x5' hx5' hm => hih (x1', x3', x5') hx5' hm) ha hq hW

set_option maxHeartbeats 4000000 in
set_option maxRecDepth 100000 in
theorem t_f_Mo_eight (W : Nat) (S : z_SS) (x1 : Int64) (q : z_Sg) (hq : iM W S q) (hW : W + 0 ≤ 16) : z_ok (f_Mo_eight x1 q) (fun _ : Int64 => True) := by
  unfold f_Mo_eight
  exact t_k_Mo_eight_5 W S x1 (0 : Int64) (0 : Int32) q (show y_il (0 : Int64) (0) (0) from ⟨by decide, by decide⟩) (show y_in (0 : Int32) (0) (0) from ⟨by decide, by decide⟩) hq hW

set_option maxHeartbeats 4000000 in
set_option maxRecDepth 100000 in
theorem t_f_Mo_stored (W : Nat) (S : z_SS) (x1 : Int32) (q : z_Sg) (hq : iM W S q) (hW : W + 0 ≤ 16) : z_ok (f_Mo_stored x1 q) (fun _ : Int64 => True) := by
  unfold f_Mo_stored
  refine z_ok_b (t_f_Mo_eight W S x1.toInt64 q hq (by omega)) (fun r1 hr1 => ?_)
  exact z_ok_s trivial

set_option maxHeartbeats 4000000 in
set_option maxRecDepth 100000 in
theorem t_f_Mo_join (W : Nat) (S : z_SS) (x0 : Int32) (x1 : Int32) (q : z_Sg) (hq : iM W S q) (hW : W + 0 ≤ 16) : z_ok (f_Mo_join x0 x1 q) (fun _ : Int64 => True) := by
  unfold f_Mo_join
  exact z_ok_s trivial

set_option maxHeartbeats 4000000 in
set_option maxRecDepth 100000 in
theorem t_k_Mo_setFlags_145 (W : Nat) (S : z_SS) (t1 : Int32) (t2 : Int32) (q : z_Sg) (ht1 : y_in t1 (6) (6)) (ht2 : y_in t2 (0) (1)) (hq : iM W S q) (hW : W + 0 ≤ 16) : z_ok (k_Mo_setFlags_145 t1 t2 q) (fun o : z_Sg => iM W S o) := by
  unfold k_Mo_setFlags_145
  refine z_ok_g (z_nbad (z_w ht1 (by decide) (Int.le_refl _)) (by decide)) ?_
  refine z_ok_n (fun q21 eq21 => ?_)
  have hq21 : iM W S q21 := by rw [eq21]; exact (iM_sN1 hq)
  exact z_ok_s hq21

set_option maxHeartbeats 4000000 in
set_option maxRecDepth 100000 in
theorem t_k_Mo_setFlags_123 (W : Nat) (S : z_SS) (x1 : Int64) (t1 : Int32) (t2 : Int32) (q : z_Sg) (ht1 : y_in t1 (5) (5)) (ht2 : y_in t2 (0) (1)) (hq : iM W S q) (hW : W + 0 ≤ 16) : z_ok (k_Mo_setFlags_123 x1 t1 t2 q) (fun o : z_Sg => iM W S o) := by
  unfold k_Mo_setFlags_123
  refine z_ok_g (z_nbad (z_w ht1 (by decide) (Int.le_refl _)) (by decide)) ?_
  refine z_ok_n (fun q18 eq18 => ?_)
  have hq18 : iM W S q18 := by rw [eq18]; exact (iM_sN1 hq)
  refine z_ok_i (fun c233951 => ?_) (fun c233951 => ?_)
  · exact t_k_Mo_setFlags_145 W S (6 : Int32) (0 : Int32) q18 (show y_in (6 : Int32) (6) (6) from ⟨by decide, by decide⟩) (z_w (show y_in (0 : Int32) (0) (0) from ⟨by decide, by decide⟩) (by decide) (by decide)) hq18 hW
  · exact t_k_Mo_setFlags_145 W S (6 : Int32) (1 : Int32) q18 (show y_in (6 : Int32) (6) (6) from ⟨by decide, by decide⟩) (z_w (show y_in (1 : Int32) (1) (1) from ⟨by decide, by decide⟩) (by decide) (by decide)) hq18 hW

set_option maxHeartbeats 4000000 in
set_option maxRecDepth 100000 in
theorem t_k_Mo_setFlags_102 (W : Nat) (S : z_SS) (x1 : Int64) (t1 : Int32) (t2 : Int32) (q : z_Sg) (ht1 : y_in t1 (4) (4)) (ht2 : y_in t2 (0) (1)) (hq : iM W S q) (hW : W + 0 ≤ 16) : z_ok (k_Mo_setFlags_102 x1 t1 t2 q) (fun o : z_Sg => iM W S o) := by
  unfold k_Mo_setFlags_102
  refine z_ok_g (z_nbad (z_w ht1 (by decide) (Int.le_refl _)) (by decide)) ?_
  refine z_ok_n (fun q15 eq15 => ?_)
  have hq15 : iM W S q15 := by rw [eq15]; exact (iM_sN1 hq)
  refine z_ok_i (fun c233952 => ?_) (fun c233952 => ?_)
  · exact t_k_Mo_setFlags_123 W S x1 (5 : Int32) (0 : Int32) q15 (show y_in (5 : Int32) (5) (5) from ⟨by decide, by decide⟩) (z_w (show y_in (0 : Int32) (0) (0) from ⟨by decide, by decide⟩) (by decide) (by decide)) hq15 hW
  · exact t_k_Mo_setFlags_123 W S x1 (5 : Int32) (1 : Int32) q15 (show y_in (5 : Int32) (5) (5) from ⟨by decide, by decide⟩) (z_w (show y_in (1 : Int32) (1) (1) from ⟨by decide, by decide⟩) (by decide) (by decide)) hq15 hW

set_option maxHeartbeats 4000000 in
set_option maxRecDepth 100000 in
theorem t_k_Mo_setFlags_81 (W : Nat) (S : z_SS) (x1 : Int64) (t1 : Int32) (t2 : Int32) (q : z_Sg) (ht1 : y_in t1 (3) (3)) (ht2 : y_in t2 (0) (1)) (hq : iM W S q) (hW : W + 0 ≤ 16) : z_ok (k_Mo_setFlags_81 x1 t1 t2 q) (fun o : z_Sg => iM W S o) := by
  unfold k_Mo_setFlags_81
  refine z_ok_g (z_nbad (z_w ht1 (by decide) (Int.le_refl _)) (by decide)) ?_
  refine z_ok_n (fun q12 eq12 => ?_)
  have hq12 : iM W S q12 := by rw [eq12]; exact (iM_sN1 hq)
  refine z_ok_i (fun c233953 => ?_) (fun c233953 => ?_)
  · exact t_k_Mo_setFlags_102 W S x1 (4 : Int32) (0 : Int32) q12 (show y_in (4 : Int32) (4) (4) from ⟨by decide, by decide⟩) (z_w (show y_in (0 : Int32) (0) (0) from ⟨by decide, by decide⟩) (by decide) (by decide)) hq12 hW
  · exact t_k_Mo_setFlags_102 W S x1 (4 : Int32) (1 : Int32) q12 (show y_in (4 : Int32) (4) (4) from ⟨by decide, by decide⟩) (z_w (show y_in (1 : Int32) (1) (1) from ⟨by decide, by decide⟩) (by decide) (by decide)) hq12 hW

set_option maxHeartbeats 4000000 in
set_option maxRecDepth 100000 in
theorem t_k_Mo_setFlags_60 (W : Nat) (S : z_SS) (x1 : Int64) (t1 : Int32) (t2 : Int32) (q : z_Sg) (ht1 : y_in t1 (2) (2)) (ht2 : y_in t2 (0) (1)) (hq : iM W S q) (hW : W + 0 ≤ 16) : z_ok (k_Mo_setFlags_60 x1 t1 t2 q) (fun o : z_Sg => iM W S o) := by
  unfold k_Mo_setFlags_60
  refine z_ok_g (z_nbad (z_w ht1 (by decide) (Int.le_refl _)) (by decide)) ?_
  refine z_ok_n (fun q9 eq9 => ?_)
  have hq9 : iM W S q9 := by rw [eq9]; exact (iM_sN1 hq)
  refine z_ok_i (fun c233954 => ?_) (fun c233954 => ?_)
  · exact t_k_Mo_setFlags_81 W S x1 (3 : Int32) (0 : Int32) q9 (show y_in (3 : Int32) (3) (3) from ⟨by decide, by decide⟩) (z_w (show y_in (0 : Int32) (0) (0) from ⟨by decide, by decide⟩) (by decide) (by decide)) hq9 hW
  · exact t_k_Mo_setFlags_81 W S x1 (3 : Int32) (1 : Int32) q9 (show y_in (3 : Int32) (3) (3) from ⟨by decide, by decide⟩) (z_w (show y_in (1 : Int32) (1) (1) from ⟨by decide, by decide⟩) (by decide) (by decide)) hq9 hW

set_option maxHeartbeats 4000000 in
set_option maxRecDepth 100000 in
theorem t_k_Mo_setFlags_39 (W : Nat) (S : z_SS) (x1 : Int64) (t1 : Int32) (t2 : Int32) (q : z_Sg) (ht1 : y_in t1 (1) (1)) (ht2 : y_in t2 (0) (1)) (hq : iM W S q) (hW : W + 0 ≤ 16) : z_ok (k_Mo_setFlags_39 x1 t1 t2 q) (fun o : z_Sg => iM W S o) := by
  unfold k_Mo_setFlags_39
  refine z_ok_g (z_nbad (z_w ht1 (by decide) (Int.le_refl _)) (by decide)) ?_
  refine z_ok_n (fun q6 eq6 => ?_)
  have hq6 : iM W S q6 := by rw [eq6]; exact (iM_sN1 hq)
  refine z_ok_i (fun c233955 => ?_) (fun c233955 => ?_)
  · exact t_k_Mo_setFlags_60 W S x1 (2 : Int32) (0 : Int32) q6 (show y_in (2 : Int32) (2) (2) from ⟨by decide, by decide⟩) (z_w (show y_in (0 : Int32) (0) (0) from ⟨by decide, by decide⟩) (by decide) (by decide)) hq6 hW
  · exact t_k_Mo_setFlags_60 W S x1 (2 : Int32) (1 : Int32) q6 (show y_in (2 : Int32) (2) (2) from ⟨by decide, by decide⟩) (z_w (show y_in (1 : Int32) (1) (1) from ⟨by decide, by decide⟩) (by decide) (by decide)) hq6 hW

set_option maxHeartbeats 4000000 in
set_option maxRecDepth 100000 in
theorem t_k_Mo_setFlags_18 (W : Nat) (S : z_SS) (x1 : Int64) (t1 : Int32) (t2 : Int32) (q : z_Sg) (ht1 : y_in t1 (0) (0)) (ht2 : y_in t2 (0) (1)) (hq : iM W S q) (hW : W + 0 ≤ 16) : z_ok (k_Mo_setFlags_18 x1 t1 t2 q) (fun o : z_Sg => iM W S o) := by
  unfold k_Mo_setFlags_18
  refine z_ok_g (z_nbad ht1 (by decide)) ?_
  refine z_ok_n (fun q3 eq3 => ?_)
  have hq3 : iM W S q3 := by rw [eq3]; exact (iM_sN1 hq)
  refine z_ok_i (fun c233956 => ?_) (fun c233956 => ?_)
  · exact t_k_Mo_setFlags_39 W S x1 (1 : Int32) (0 : Int32) q3 (show y_in (1 : Int32) (1) (1) from ⟨by decide, by decide⟩) (z_w (show y_in (0 : Int32) (0) (0) from ⟨by decide, by decide⟩) (by decide) (by decide)) hq3 hW
  · exact t_k_Mo_setFlags_39 W S x1 (1 : Int32) (1 : Int32) q3 (show y_in (1 : Int32) (1) (1) from ⟨by decide, by decide⟩) (z_w (show y_in (1 : Int32) (1) (1) from ⟨by decide, by decide⟩) (by decide) (by decide)) hq3 hW

set_option maxHeartbeats 4000000 in
set_option maxRecDepth 100000 in
theorem t_f_Mo_setFlags (W : Nat) (S : z_SS) (x1 : Int64) (q : z_Sg) (hq : iM W S q) (hW : W + 0 ≤ 16) : z_ok (f_Mo_setFlags x1 q) (fun o : z_Sg => iM W S o) := by
  unfold f_Mo_setFlags
  refine z_ok_i (fun c233957 => ?_) (fun c233957 => ?_)
  · exact t_k_Mo_setFlags_18 W S x1 (0 : Int32) (0 : Int32) q (show y_in (0 : Int32) (0) (0) from ⟨by decide, by decide⟩) (z_w (show y_in (0 : Int32) (0) (0) from ⟨by decide, by decide⟩) (by decide) (by decide)) hq hW
  · exact t_k_Mo_setFlags_18 W S x1 (0 : Int32) (1 : Int32) q (show y_in (0 : Int32) (0) (0) from ⟨by decide, by decide⟩) (z_w (show y_in (1 : Int32) (1) (1) from ⟨by decide, by decide⟩) (by decide) (by decide)) hq hW

set_option maxHeartbeats 4000000 in
set_option maxRecDepth 100000 in
theorem t_k_Mo_set_17 (W : Nat) (S : z_SS) (q : z_Sg) (hq : iM W S q) (hW : W + 0 ≤ 16) : z_ok (k_Mo_set_17 q) (fun o : Int32 × z_Sg => iM W S o.2 ∧ y_in o.1 (0) (1)) := by
  unfold k_Mo_set_17
  exact z_ok_s ⟨hq, (z_w (show y_in (0 : Int32) (0) (0) from ⟨by decide, by decide⟩) (by decide) (by decide))⟩

set_option maxHeartbeats 4000000 in
set_option maxRecDepth 100000 in
theorem t_k_Mo_set_105 (W : Nat) (S : z_SS) (q : z_Sg) (hq : iM W S q) (hW : W + 0 ≤ 16) : z_ok (k_Mo_set_105 q) (fun o : Int32 × z_Sg => iM W S o.2 ∧ y_in o.1 (0) (1)) := by
  unfold k_Mo_set_105
  exact z_ok_s ⟨hq, (z_w (show y_in (1 : Int32) (1) (1) from ⟨by decide, by decide⟩) (by decide) (by decide))⟩

set_option maxHeartbeats 4000000 in
set_option maxRecDepth 100000 in
theorem t_k_Mo_set_93 (W : Nat) (S : z_SS) (x1 : Int32) (x4 : Int64) (q : z_Sg) (hx1 : y_in x1 (0) (21)) (hq : iM W S q) (hW : W + 0 ≤ 16) : z_ok (k_Mo_set_93 x1 x4 q) (fun o : Int32 × z_Sg => iM W S o.2 ∧ y_in o.1 (0) (1)) := by
  unfold k_Mo_set_93
  refine z_ok_i (fun c233958 => ?_) (fun c233958 => ?_)
  · have z233959 : y_in x1 (21) (21) := z_w (z_eq1 c233958 (show y_in (21 : Int32) (21) (21) from ⟨by decide, by decide⟩)) (by decide) (by decide)
    refine z_ok_n (fun q11 eq11 => ?_)
    have hq11 : iM W S q11 := by rw [eq11]; exact (iM_sL hq)
    exact t_k_Mo_set_105 W S q11 hq11 hW
  · have z233960 : y_in x1 (0) (20) := z_w (z_ne2 c233958 hx1 (by decide)) (by decide) (by decide)
    exact t_k_Mo_set_105 W S q hq hW

set_option maxHeartbeats 4000000 in
set_option maxRecDepth 100000 in
theorem t_k_Mo_set_81 (W : Nat) (S : z_SS) (x1 : Int32) (x4 : Int64) (q : z_Sg) (hx1 : y_in x1 (0) (21)) (hq : iM W S q) (hW : W + 0 ≤ 16) : z_ok (k_Mo_set_81 x1 x4 q) (fun o : Int32 × z_Sg => iM W S o.2 ∧ y_in o.1 (0) (1)) := by
  unfold k_Mo_set_81
  refine z_ok_i (fun c233961 => ?_) (fun c233961 => ?_)
  · have z233962 : y_in x1 (20) (20) := z_w (z_eq1 c233961 (show y_in (20 : Int32) (20) (20) from ⟨by decide, by decide⟩)) (by decide) (by decide)
    refine z_ok_b (t_f_Mo_setFlags W S x4 q hq (by omega)) (fun r12 hr12 => ?_)
    exact t_k_Mo_set_93 W S x1 x4 r12 (z_w z233962 (by decide) (by decide)) hr12 hW
  · exact t_k_Mo_set_93 W S x1 x4 q hx1 hq hW

set_option maxHeartbeats 4000000 in
set_option maxRecDepth 100000 in
theorem t_k_Mo_set_69 (W : Nat) (S : z_SS) (x1 : Int32) (x4 : Int64) (q : z_Sg) (hx1 : y_in x1 (0) (21)) (hq : iM W S q) (hW : W + 0 ≤ 16) : z_ok (k_Mo_set_69 x1 x4 q) (fun o : Int32 × z_Sg => iM W S o.2 ∧ y_in o.1 (0) (1)) := by
  unfold k_Mo_set_69
  refine z_ok_i (fun c233963 => ?_) (fun c233963 => ?_)
  · have z233964 : y_in x1 (19) (19) := z_w (z_eq1 c233963 (show y_in (19 : Int32) (19) (19) from ⟨by decide, by decide⟩)) (by decide) (by decide)
    refine z_ok_n (fun q13 eq13 => ?_)
    have hq13 : iM W S q13 := by rw [eq13]; exact (iM_sL hq)
    exact t_k_Mo_set_81 W S x1 x4 q13 (z_w z233964 (by decide) (by decide)) hq13 hW
  · exact t_k_Mo_set_81 W S x1 x4 q hx1 hq hW

set_option maxHeartbeats 4000000 in
set_option maxRecDepth 100000 in
theorem t_k_Mo_set_57 (W : Nat) (S : z_SS) (x1 : Int32) (x4 : Int64) (q : z_Sg) (hx1 : y_in x1 (0) (21)) (hq : iM W S q) (hW : W + 0 ≤ 16) : z_ok (k_Mo_set_57 x1 x4 q) (fun o : Int32 × z_Sg => iM W S o.2 ∧ y_in o.1 (0) (1)) := by
  unfold k_Mo_set_57
  refine z_ok_i (fun c233965 => ?_) (fun c233965 => ?_)
  · have z233966 : y_in x1 (18) (18) := z_w (z_eq1 c233965 (show y_in (18 : Int32) (18) (18) from ⟨by decide, by decide⟩)) (by decide) (by decide)
    refine z_ok_n (fun q14 eq14 => ?_)
    have hq14 : iM W S q14 := by rw [eq14]; exact (iM_sL hq)
    exact t_k_Mo_set_69 W S x1 x4 q14 (z_w z233966 (by decide) (by decide)) hq14 hW
  · exact t_k_Mo_set_69 W S x1 x4 q hx1 hq hW

set_option maxHeartbeats 4000000 in
set_option maxRecDepth 100000 in
theorem t_k_Mo_set_45 (W : Nat) (S : z_SS) (x1 : Int32) (x4 : Int64) (q : z_Sg) (hx1 : y_in x1 (0) (21)) (hq : iM W S q) (hW : W + 0 ≤ 16) : z_ok (k_Mo_set_45 x1 x4 q) (fun o : Int32 × z_Sg => iM W S o.2 ∧ y_in o.1 (0) (1)) := by
  unfold k_Mo_set_45
  refine z_ok_i (fun c233967 => ?_) (fun c233967 => ?_)
  · have z233968 : y_in x1 (17) (17) := z_w (z_eq1 c233967 (show y_in (17 : Int32) (17) (17) from ⟨by decide, by decide⟩)) (by decide) (by decide)
    refine z_ok_n (fun q15 eq15 => ?_)
    have hq15 : iM W S q15 := by rw [eq15]; exact (iM_sL hq)
    exact t_k_Mo_set_57 W S x1 x4 q15 (z_w z233968 (by decide) (by decide)) hq15 hW
  · exact t_k_Mo_set_57 W S x1 x4 q hx1 hq hW

set_option maxHeartbeats 4000000 in
set_option maxRecDepth 100000 in
theorem t_k_Mo_set_33 (W : Nat) (S : z_SS) (x1 : Int32) (x4 : Int64) (q : z_Sg) (hx1 : y_in x1 (0) (21)) (hq : iM W S q) (hW : W + 0 ≤ 16) : z_ok (k_Mo_set_33 x1 x4 q) (fun o : Int32 × z_Sg => iM W S o.2 ∧ y_in o.1 (0) (1)) := by
  unfold k_Mo_set_33
  refine z_ok_i (fun c233969 => ?_) (fun c233969 => ?_)
  · have z233970 : y_in x1 (16) (16) := z_w (z_eq1 c233969 (show y_in (16 : Int32) (16) (16) from ⟨by decide, by decide⟩)) (by decide) (by decide)
    refine z_ok_n (fun q16 eq16 => ?_)
    have hq16 : iM W S q16 := by rw [eq16]; exact (iM_sL hq)
    exact t_k_Mo_set_45 W S x1 x4 q16 (z_w z233970 (by decide) (by decide)) hq16 hW
  · exact t_k_Mo_set_45 W S x1 x4 q hx1 hq hW

set_option maxHeartbeats 4000000 in
set_option maxRecDepth 100000 in
theorem t_f_Mo_set (W : Nat) (S : z_SS) (x1 : Int32) (x2 : Int32) (x3 : Int32) (q : z_Sg) (hq : iM W S q) (hW : W + 0 ≤ 16) : z_ok (f_Mo_set x1 x2 x3 q) (fun o : Int32 × z_Sg => iM W S o.2 ∧ y_in o.1 (0) (1)) := by
  unfold f_Mo_set
  refine z_ok_b (t_f_Mo_join W S x2 x3 q hq (by omega)) (fun r1 hr1 => ?_)
  refine z_ok_i (fun c233971 => ?_) (fun c233971 => ?_)
  · have z233972 : y_in x1 (-2147483648) (-1) := z_w (z_lt1 c233971 (z_full _) (show y_in (0 : Int32) (0) (0) from ⟨by decide, by decide⟩)) (by decide) (by decide)
    exact t_k_Mo_set_17 W S q hq hW
  · have z233973 : y_in x1 (0) (2147483647) := z_w (z_nlt1 c233971 (z_full _) (show y_in (0 : Int32) (0) (0) from ⟨by decide, by decide⟩)) (by decide) (by decide)
    refine z_ok_i (fun c233974 => ?_) (fun c233974 => ?_)
    · have z233975 : y_in x1 (0) (21) := z_w (z_le1 c233974 z233973 (show y_in (21 : Int32) (21) (21) from ⟨by decide, by decide⟩)) (by decide) (by decide)
      refine z_ok_i (fun c233976 => ?_) (fun c233976 => ?_)
      · have z233977 : y_in x1 (16) (21) := z_w (z_le2 c233976 (show y_in (16 : Int32) (16) (16) from ⟨by decide, by decide⟩) z233975) (by decide) (by decide)
        exact t_k_Mo_set_33 W S x1 r1 q (z_w z233977 (by decide) (by decide)) hq hW
      · have z233978 : y_in x1 (0) (15) := z_w (z_nle2 c233976 (show y_in (16 : Int32) (16) (16) from ⟨by decide, by decide⟩) z233975) (by decide) (by decide)
        refine z_ok_g (z_nbad z233978 (by decide)) ?_
        refine z_ok_n (fun q18 eq18 => ?_)
        have hq18 : iM W S q18 := by rw [eq18]; exact (iM_sM0 hq)
        exact t_k_Mo_set_33 W S x1 r1 q18 (z_w z233978 (by decide) (by decide)) hq18 hW
    · have z233979 : y_in x1 (22) (2147483647) := z_w (z_nle1 c233974 z233973 (show y_in (21 : Int32) (21) (21) from ⟨by decide, by decide⟩)) (by decide) (by decide)
      exact t_k_Mo_set_17 W S q hq hW

set_option maxHeartbeats 4000000 in
set_option maxRecDepth 100000 in
theorem t_k_Mo_flags_116 (W : Nat) (S : z_SS) (t0 : Int64) (t1 : Int64) (q : z_Sg) (ht1 : y_il t1 (0) (2048)) (hq : iM W S q) (hW : W + 0 ≤ 16) : z_ok (k_Mo_flags_116 t0 t1 q) (fun _ : Int64 => True) := by
  unfold k_Mo_flags_116
  exact z_ok_s trivial

set_option maxHeartbeats 4000000 in
set_option maxRecDepth 100000 in
theorem t_k_Mo_flags_98 (W : Nat) (S : z_SS) (t0 : Int64) (t1 : Int64) (q : z_Sg) (ht1 : y_il t1 (0) (1024)) (hq : iM W S q) (hW : W + 0 ≤ 16) : z_ok (k_Mo_flags_98 t0 t1 q) (fun _ : Int64 => True) := by
  unfold k_Mo_flags_98
  refine z_ok_g (z_nbad (z_w (show y_in (6 : Int32) (6) (6) from ⟨by decide, by decide⟩) (by decide) (Int.le_refl _)) (by decide)) ?_
  refine z_ok_i (fun c233980 => ?_) (fun c233980 => ?_)
  · have z233981 : y_in (z_gN q 1 (6 : Int32).toNatClampNeg) (0) (0) := z_w (z_eq1 c233980 (show y_in (0 : Int32) (0) (0) from ⟨by decide, by decide⟩)) (by decide) (by decide)
    exact t_k_Mo_flags_116 W S (t0 + t1) (0 : Int64) q (z_lw (show y_il (0 : Int64) (0) (0) from ⟨by decide, by decide⟩) (by decide) (by decide)) hq hW
  · have z233982 : y_in (z_gN q 1 (6 : Int32).toNatClampNeg) (1) (1) := z_w (z_ne1 c233980 (iM_n1 hq _) (by decide)) (by decide) (by decide)
    exact t_k_Mo_flags_116 W S (t0 + t1) (2048 : Int64) q (z_lw (show y_il (2048 : Int64) (2048) (2048) from ⟨by decide, by decide⟩) (by decide) (by decide)) hq hW

set_option maxHeartbeats 4000000 in
set_option maxRecDepth 100000 in
theorem t_k_Mo_flags_81 (W : Nat) (S : z_SS) (t0 : Int64) (t1 : Int64) (q : z_Sg) (ht1 : y_il t1 (0) (128)) (hq : iM W S q) (hW : W + 0 ≤ 16) : z_ok (k_Mo_flags_81 t0 t1 q) (fun _ : Int64 => True) := by
  unfold k_Mo_flags_81
  refine z_ok_g (z_nbad (z_w (show y_in (5 : Int32) (5) (5) from ⟨by decide, by decide⟩) (by decide) (Int.le_refl _)) (by decide)) ?_
  refine z_ok_i (fun c233983 => ?_) (fun c233983 => ?_)
  · have z233984 : y_in (z_gN q 1 (5 : Int32).toNatClampNeg) (0) (0) := z_w (z_eq1 c233983 (show y_in (0 : Int32) (0) (0) from ⟨by decide, by decide⟩)) (by decide) (by decide)
    exact t_k_Mo_flags_98 W S (t0 + t1) (0 : Int64) q (z_lw (show y_il (0 : Int64) (0) (0) from ⟨by decide, by decide⟩) (by decide) (by decide)) hq hW
  · have z233985 : y_in (z_gN q 1 (5 : Int32).toNatClampNeg) (1) (1) := z_w (z_ne1 c233983 (iM_n1 hq _) (by decide)) (by decide) (by decide)
    exact t_k_Mo_flags_98 W S (t0 + t1) (1024 : Int64) q (z_lw (show y_il (1024 : Int64) (1024) (1024) from ⟨by decide, by decide⟩) (by decide) (by decide)) hq hW

set_option maxHeartbeats 4000000 in
set_option maxRecDepth 100000 in
theorem t_k_Mo_flags_64 (W : Nat) (S : z_SS) (t0 : Int64) (t1 : Int64) (q : z_Sg) (ht1 : y_il t1 (0) (64)) (hq : iM W S q) (hW : W + 0 ≤ 16) : z_ok (k_Mo_flags_64 t0 t1 q) (fun _ : Int64 => True) := by
  unfold k_Mo_flags_64
  refine z_ok_g (z_nbad (z_w (show y_in (4 : Int32) (4) (4) from ⟨by decide, by decide⟩) (by decide) (Int.le_refl _)) (by decide)) ?_
  refine z_ok_i (fun c233986 => ?_) (fun c233986 => ?_)
  · have z233987 : y_in (z_gN q 1 (4 : Int32).toNatClampNeg) (0) (0) := z_w (z_eq1 c233986 (show y_in (0 : Int32) (0) (0) from ⟨by decide, by decide⟩)) (by decide) (by decide)
    exact t_k_Mo_flags_81 W S (t0 + t1) (0 : Int64) q (z_lw (show y_il (0 : Int64) (0) (0) from ⟨by decide, by decide⟩) (by decide) (by decide)) hq hW
  · have z233988 : y_in (z_gN q 1 (4 : Int32).toNatClampNeg) (1) (1) := z_w (z_ne1 c233986 (iM_n1 hq _) (by decide)) (by decide) (by decide)
    exact t_k_Mo_flags_81 W S (t0 + t1) (128 : Int64) q (z_lw (show y_il (128 : Int64) (128) (128) from ⟨by decide, by decide⟩) (by decide) (by decide)) hq hW

set_option maxHeartbeats 4000000 in
set_option maxRecDepth 100000 in
theorem t_k_Mo_flags_47 (W : Nat) (S : z_SS) (t0 : Int64) (t1 : Int64) (q : z_Sg) (ht1 : y_il t1 (0) (16)) (hq : iM W S q) (hW : W + 0 ≤ 16) : z_ok (k_Mo_flags_47 t0 t1 q) (fun _ : Int64 => True) := by
  unfold k_Mo_flags_47
  refine z_ok_g (z_nbad (z_w (show y_in (3 : Int32) (3) (3) from ⟨by decide, by decide⟩) (by decide) (Int.le_refl _)) (by decide)) ?_
  refine z_ok_i (fun c233989 => ?_) (fun c233989 => ?_)
  · have z233990 : y_in (z_gN q 1 (3 : Int32).toNatClampNeg) (0) (0) := z_w (z_eq1 c233989 (show y_in (0 : Int32) (0) (0) from ⟨by decide, by decide⟩)) (by decide) (by decide)
    exact t_k_Mo_flags_64 W S (t0 + t1) (0 : Int64) q (z_lw (show y_il (0 : Int64) (0) (0) from ⟨by decide, by decide⟩) (by decide) (by decide)) hq hW
  · have z233991 : y_in (z_gN q 1 (3 : Int32).toNatClampNeg) (1) (1) := z_w (z_ne1 c233989 (iM_n1 hq _) (by decide)) (by decide) (by decide)
    exact t_k_Mo_flags_64 W S (t0 + t1) (64 : Int64) q (z_lw (show y_il (64 : Int64) (64) (64) from ⟨by decide, by decide⟩) (by decide) (by decide)) hq hW

set_option maxHeartbeats 4000000 in
set_option maxRecDepth 100000 in
theorem t_k_Mo_flags_30 (W : Nat) (S : z_SS) (t0 : Int64) (t1 : Int64) (q : z_Sg) (ht0 : y_il t0 (0) (1)) (ht1 : y_il t1 (0) (4)) (hq : iM W S q) (hW : W + 0 ≤ 16) : z_ok (k_Mo_flags_30 t0 t1 q) (fun _ : Int64 => True) := by
  unfold k_Mo_flags_30
  refine z_ok_g (z_nbad (z_w (show y_in (2 : Int32) (2) (2) from ⟨by decide, by decide⟩) (by decide) (Int.le_refl _)) (by decide)) ?_
  refine z_ok_i (fun c233992 => ?_) (fun c233992 => ?_)
  · have z233993 : y_in (z_gN q 1 (2 : Int32).toNatClampNeg) (0) (0) := z_w (z_eq1 c233992 (show y_in (0 : Int32) (0) (0) from ⟨by decide, by decide⟩)) (by decide) (by decide)
    exact t_k_Mo_flags_47 W S (t0 + t1) (0 : Int64) q (z_lw (show y_il (0 : Int64) (0) (0) from ⟨by decide, by decide⟩) (by decide) (by decide)) hq hW
  · have z233994 : y_in (z_gN q 1 (2 : Int32).toNatClampNeg) (1) (1) := z_w (z_ne1 c233992 (iM_n1 hq _) (by decide)) (by decide) (by decide)
    exact t_k_Mo_flags_47 W S (t0 + t1) (16 : Int64) q (z_lw (show y_il (16 : Int64) (16) (16) from ⟨by decide, by decide⟩) (by decide) (by decide)) hq hW

set_option maxHeartbeats 4000000 in
set_option maxRecDepth 100000 in
theorem t_k_Mo_flags_14 (W : Nat) (S : z_SS) (t0 : Int64) (q : z_Sg) (ht0 : y_il t0 (0) (1)) (hq : iM W S q) (hW : W + 0 ≤ 16) : z_ok (k_Mo_flags_14 t0 q) (fun _ : Int64 => True) := by
  unfold k_Mo_flags_14
  refine z_ok_g (z_nbad (z_w (show y_in (1 : Int32) (1) (1) from ⟨by decide, by decide⟩) (by decide) (Int.le_refl _)) (by decide)) ?_
  refine z_ok_i (fun c233995 => ?_) (fun c233995 => ?_)
  · have z233996 : y_in (z_gN q 1 (1 : Int32).toNatClampNeg) (0) (0) := z_w (z_eq1 c233995 (show y_in (0 : Int32) (0) (0) from ⟨by decide, by decide⟩)) (by decide) (by decide)
    exact t_k_Mo_flags_30 W S t0 (0 : Int64) q ht0 (z_lw (show y_il (0 : Int64) (0) (0) from ⟨by decide, by decide⟩) (by decide) (by decide)) hq hW
  · have z233997 : y_in (z_gN q 1 (1 : Int32).toNatClampNeg) (1) (1) := z_w (z_ne1 c233995 (iM_n1 hq _) (by decide)) (by decide) (by decide)
    exact t_k_Mo_flags_30 W S t0 (4 : Int64) q ht0 (z_lw (show y_il (4 : Int64) (4) (4) from ⟨by decide, by decide⟩) (by decide) (by decide)) hq hW

set_option maxHeartbeats 4000000 in
set_option maxRecDepth 100000 in
theorem t_f_Mo_flags (W : Nat) (S : z_SS) (q : z_Sg) (hq : iM W S q) (hW : W + 0 ≤ 16) : z_ok (f_Mo_flags q) (fun _ : Int64 => True) := by
  unfold f_Mo_flags
  refine z_ok_g (z_nbad (show y_in (0 : Int32) (0) (0) from ⟨by decide, by decide⟩) (by decide)) ?_
  refine z_ok_i (fun c233998 => ?_) (fun c233998 => ?_)
  · have z233999 : y_in (z_gN q 1 (0 : Int32).toNatClampNeg) (0) (0) := z_w (z_eq1 c233998 (show y_in (0 : Int32) (0) (0) from ⟨by decide, by decide⟩)) (by decide) (by decide)
    exact t_k_Mo_flags_14 W S (0 : Int64) q (z_lw (show y_il (0 : Int64) (0) (0) from ⟨by decide, by decide⟩) (by decide) (by decide)) hq hW
  · have z234000 : y_in (z_gN q 1 (0 : Int32).toNatClampNeg) (1) (1) := z_w (z_ne1 c233998 (iM_n1 hq _) (by decide)) (by decide) (by decide)
    exact t_k_Mo_flags_14 W S (1 : Int64) q (z_lw (show y_il (1 : Int64) (1) (1) from ⟨by decide, by decide⟩) (by decide) (by decide)) hq hW

set_option maxHeartbeats 4000000 in
set_option maxRecDepth 100000 in
theorem t_k_Mo_get_10 (W : Nat) (S : z_SS) (q : z_Sg) (hq : iM W S q) (hW : W + 0 ≤ 16) : z_ok (k_Mo_get_10 q) (fun _ : Int64 => True) := by
  unfold k_Mo_get_10
  exact z_ok_s trivial

set_option maxHeartbeats 4000000 in
set_option maxRecDepth 100000 in
theorem t_k_Mo_get_127 (W : Nat) (S : z_SS) (t0 : Int64) (q : z_Sg) (ht0 : y_il t0 (0) (3)) (hq : iM W S q) (hW : W + 0 ≤ 16) : z_ok (k_Mo_get_127 t0 q) (fun _ : Int64 => True) := by
  unfold k_Mo_get_127
  exact z_ok_s trivial

set_option maxHeartbeats 4000000 in
set_option maxRecDepth 100000 in
theorem t_f_Mo_get (W : Nat) (S : z_SS) (x1 : Int32) (q : z_Sg) (hq : iM W S q) (hW : W + 0 ≤ 16) : z_ok (f_Mo_get x1 q) (fun _ : Int64 => True) := by
  unfold f_Mo_get
  refine z_ok_i (fun c234001 => ?_) (fun c234001 => ?_)
  · have z234002 : y_in x1 (-2147483648) (-1) := z_w (z_lt1 c234001 (z_full _) (show y_in (0 : Int32) (0) (0) from ⟨by decide, by decide⟩)) (by decide) (by decide)
    exact t_k_Mo_get_10 W S q hq hW
  · have z234003 : y_in x1 (0) (2147483647) := z_w (z_nlt1 c234001 (z_full _) (show y_in (0 : Int32) (0) (0) from ⟨by decide, by decide⟩)) (by decide) (by decide)
    refine z_ok_i (fun c234004 => ?_) (fun c234004 => ?_)
    · have z234005 : y_in x1 (0) (24) := z_w (z_le1 c234004 z234003 (show y_in (24 : Int32) (24) (24) from ⟨by decide, by decide⟩)) (by decide) (by decide)
      refine z_ok_i (fun c234006 => ?_) (fun c234006 => ?_)
      · have z234007 : y_in x1 (16) (24) := z_w (z_le2 c234006 (show y_in (16 : Int32) (16) (16) from ⟨by decide, by decide⟩) z234005) (by decide) (by decide)
        refine z_ok_i (fun c234008 => ?_) (fun c234008 => ?_)
        · have z234009 : y_in x1 (16) (16) := z_w (z_eq1 c234008 (show y_in (16 : Int32) (16) (16) from ⟨by decide, by decide⟩)) (by decide) (by decide)
          exact z_ok_s trivial
        · have z234010 : y_in x1 (17) (24) := z_w (z_ne1 c234008 z234007 (by decide)) (by decide) (by decide)
          refine z_ok_i (fun c234011 => ?_) (fun c234011 => ?_)
          · have z234012 : y_in x1 (17) (17) := z_w (z_eq1 c234011 (show y_in (17 : Int32) (17) (17) from ⟨by decide, by decide⟩)) (by decide) (by decide)
            exact z_ok_s trivial
          · have z234013 : y_in x1 (18) (24) := z_w (z_ne1 c234011 z234010 (by decide)) (by decide) (by decide)
            refine z_ok_i (fun c234014 => ?_) (fun c234014 => ?_)
            · have z234015 : y_in x1 (18) (18) := z_w (z_eq1 c234014 (show y_in (18 : Int32) (18) (18) from ⟨by decide, by decide⟩)) (by decide) (by decide)
              exact z_ok_s trivial
            · have z234016 : y_in x1 (19) (24) := z_w (z_ne1 c234014 z234013 (by decide)) (by decide) (by decide)
              refine z_ok_i (fun c234017 => ?_) (fun c234017 => ?_)
              · have z234018 : y_in x1 (19) (19) := z_w (z_eq1 c234017 (show y_in (19 : Int32) (19) (19) from ⟨by decide, by decide⟩)) (by decide) (by decide)
                exact z_ok_s trivial
              · have z234019 : y_in x1 (20) (24) := z_w (z_ne1 c234017 z234016 (by decide)) (by decide) (by decide)
                refine z_ok_i (fun c234020 => ?_) (fun c234020 => ?_)
                · have z234021 : y_in x1 (20) (20) := z_w (z_eq1 c234020 (show y_in (20 : Int32) (20) (20) from ⟨by decide, by decide⟩)) (by decide) (by decide)
                  refine z_ok_b (t_f_Mo_flags W S q hq (by omega)) (fun r9 hr9 => ?_)
                  exact z_ok_s trivial
                · have z234022 : y_in x1 (21) (24) := z_w (z_ne1 c234020 z234019 (by decide)) (by decide) (by decide)
                  refine z_ok_i (fun c234023 => ?_) (fun c234023 => ?_)
                  · have z234024 : y_in x1 (21) (21) := z_w (z_eq1 c234023 (show y_in (21 : Int32) (21) (21) from ⟨by decide, by decide⟩)) (by decide) (by decide)
                    exact z_ok_s trivial
                  · have z234025 : y_in x1 (22) (24) := z_w (z_ne1 c234023 z234022 (by decide)) (by decide) (by decide)
                    refine z_ok_i (fun c234026 => ?_) (fun c234026 => ?_)
                    · have z234027 : y_in x1 (22) (22) := z_w (z_eq1 c234026 (show y_in (22 : Int32) (22) (22) from ⟨by decide, by decide⟩)) (by decide) (by decide)
                      exact z_ok_s trivial
                    · have z234028 : y_in x1 (23) (24) := z_w (z_ne1 c234026 z234025 (by decide)) (by decide) (by decide)
                      refine z_ok_i (fun c234029 => ?_) (fun c234029 => ?_)
                      · have z234030 : y_in x1 (23) (23) := z_w (z_eq1 c234029 (show y_in (23 : Int32) (23) (23) from ⟨by decide, by decide⟩)) (by decide) (by decide)
                        exact z_ok_s trivial
                      · have z234031 : y_in x1 (24) (24) := z_w (z_ne1 c234029 z234028 (by decide)) (by decide) (by decide)
                        refine z_ok_i (fun c234032 => ?_) (fun c234032 => ?_)
                        · have z234033 : y_in (z_gI q 2) (0) (0) := z_w (z_eq1 c234032 (show y_in (0 : Int32) (0) (0) from ⟨by decide, by decide⟩)) (by decide) (by decide)
                          exact t_k_Mo_get_127 W S (0 : Int64) q (z_lw (show y_il (0 : Int64) (0) (0) from ⟨by decide, by decide⟩) (by decide) (by decide)) hq hW
                        · have z234034 : y_in (z_gI q 2) (1) (1) := z_w (z_ne1 c234032 (iM_f2 hq) (by decide)) (by decide) (by decide)
                          exact t_k_Mo_get_127 W S (3 : Int64) q (z_lw (show y_il (3 : Int64) (3) (3) from ⟨by decide, by decide⟩) (by decide) (by decide)) hq hW
      · have z234035 : y_in x1 (0) (15) := z_w (z_nle2 c234006 (show y_in (16 : Int32) (16) (16) from ⟨by decide, by decide⟩) z234005) (by decide) (by decide)
        refine z_ok_g (z_nbad z234035 (by decide)) ?_
        exact z_ok_s trivial
    · have z234036 : y_in x1 (25) (2147483647) := z_w (z_nle1 c234004 z234003 (show y_in (24 : Int32) (24) (24) from ⟨by decide, by decide⟩)) (by decide) (by decide)
      exact t_k_Mo_get_10 W S q hq hW

set_option maxHeartbeats 4000000 in
set_option maxRecDepth 100000 in
theorem t_f_Mo_level (W : Nat) (S : z_SS) (x1 : Int32) (q : z_Sg) (hx1 : y_in x1 (0) (1)) (hq : iM W S q) (hW : W + 0 ≤ 16) : z_ok (f_Mo_level x1 q) (fun o : z_Sg => iM W S o) := by
  unfold f_Mo_level
  refine z_ok_G (z_bi hx1) ?_
  refine z_ok_n (fun q2 eq2 => ?_)
  have hq2 : iM W S q2 := by rw [eq2]; exact (iM_sI2 hq hx1)
  exact z_ok_s hq2

set_option maxHeartbeats 4000000 in
set_option maxRecDepth 100000 in
theorem t_k_Mo_isWrong_59 (W : Nat) (S : z_SS) (ih23 : Int64 × Int32 × Int32 × Int32 → Option Int32) (x0 : Int64) (x2 : Int32) (x4 : Int32) (t0 : Int32) (q : z_Sg) (hi23 : ∀ (x0' : Int64) (x2' : Int32) (x3' : Int32) (x4' : Int32), y_in x2' (0) (1) → y_in x3' (0) (1) → y_in x4' (48) (64) → (64 - x4'.toInt).toNat < (64 - x4.toInt).toNat → z_ok (ih23 (x0', x2', x3', x4')) (fun o : Int32 => y_in o (0) (1))) (hx2 : y_in x2 (0) (1)) (hx4 : y_in x4 (48) (63)) (ht0 : y_in t0 (0) (1)) (hq : iM W S q) (hW : W + 0 ≤ 16) : z_ok (k_Mo_isWrong_59 ih23 x0 x2 x4 t0 q) (fun o : Int32 => y_in o (0) (1)) := by
  unfold k_Mo_isWrong_59
  refine z_ok_n (fun n5 en5 => ?_)
  have hn5 : y_in n5 (49) (64) := z_e en5 (z_w (a' := 49) (b' := 64) (z_add hx4 (show y_in (1 : Int32) (1) (1) from ⟨by decide, by decide⟩) (by decide) (by decide)) (by decide) (by decide))
  exact hi23 x0 x2 t0 n5 hx2 ht0 (z_w hn5 (by decide) (by decide)) (z_mu (64) 1 hx4 en5 (by decide) (by decide) (by decide) (by decide))

set_option maxHeartbeats 4000000 in
set_option maxRecDepth 100000 in
theorem t_k_Mo_isWrong_54 (W : Nat) (S : z_SS) (ih23 : Int64 × Int32 × Int32 × Int32 → Option Int32) (x0 : Int64) (x2 : Int32) (x4 : Int32) (q : z_Sg) (hi23 : ∀ (x0' : Int64) (x2' : Int32) (x3' : Int32) (x4' : Int32), y_in x2' (0) (1) → y_in x3' (0) (1) → y_in x4' (48) (64) → (64 - x4'.toInt).toNat < (64 - x4.toInt).toNat → z_ok (ih23 (x0', x2', x3', x4')) (fun o : Int32 => y_in o (0) (1))) (hx2 : y_in x2 (0) (1)) (hx4 : y_in x4 (48) (63)) (hq : iM W S q) (hW : W + 0 ≤ 16) : z_ok (k_Mo_isWrong_54 ih23 x0 x2 x4 q) (fun o : Int32 => y_in o (0) (1)) := by
  unfold k_Mo_isWrong_54
  exact t_k_Mo_isWrong_59 W S ih23 x0 x2 x4 (1 : Int32) q hi23 hx2 hx4 (z_w (show y_in (1 : Int32) (1) (1) from ⟨by decide, by decide⟩) (by decide) (by decide)) hq hW

set_option maxHeartbeats 4000000 in
set_option maxRecDepth 100000 in
theorem t_k_Mo_isWrong_50 (W : Nat) (S : z_SS) (ih23 : Int64 × Int32 × Int32 × Int32 → Option Int32) (x0 : Int64) (x2 : Int32) (x4 : Int32) (t0 : Int32) (q : z_Sg) (hi23 : ∀ (x0' : Int64) (x2' : Int32) (x3' : Int32) (x4' : Int32), y_in x2' (0) (1) → y_in x3' (0) (1) → y_in x4' (48) (64) → (64 - x4'.toInt).toNat < (64 - x4.toInt).toNat → z_ok (ih23 (x0', x2', x3', x4')) (fun o : Int32 => y_in o (0) (1))) (hx2 : y_in x2 (0) (1)) (hx4 : y_in x4 (48) (63)) (ht0 : y_in t0 (0) (1)) (hq : iM W S q) (hW : W + 0 ≤ 16) : z_ok (k_Mo_isWrong_50 ih23 x0 x2 x4 t0 q) (fun o : Int32 => y_in o (0) (1)) := by
  unfold k_Mo_isWrong_50
  refine z_ok_i (fun c234037 => ?_) (fun c234037 => ?_)
  · exact t_k_Mo_isWrong_59 W S ih23 x0 x2 x4 (0 : Int32) q hi23 hx2 hx4 (z_w (show y_in (0 : Int32) (0) (0) from ⟨by decide, by decide⟩) (by decide) (by decide)) hq hW
  · exact t_k_Mo_isWrong_54 W S ih23 x0 x2 x4 q hi23 hx2 hx4 hq hW

set_option maxHeartbeats 4000000 in
set_option maxRecDepth 100000 in
theorem t_kb_Mo_isWrong_23 (W : Nat) (S : z_SS) (ih23 : Int64 × Int32 × Int32 × Int32 → Option Int32) (x0 : Int64) (x2 : Int32) (x3 : Int32) (x4 : Int32) (q : z_Sg) (hi23 : ∀ (x0' : Int64) (x2' : Int32) (x3' : Int32) (x4' : Int32), y_in x2' (0) (1) → y_in x3' (0) (1) → y_in x4' (48) (64) → (64 - x4'.toInt).toNat < (64 - x4.toInt).toNat → z_ok (ih23 (x0', x2', x3', x4')) (fun o : Int32 => y_in o (0) (1))) (hx2 : y_in x2 (0) (1)) (hx3 : y_in x3 (0) (1)) (hx4 : y_in x4 (48) (64)) (hq : iM W S q) (hW : W + 0 ≤ 16) : z_ok (kb_Mo_isWrong_23 ih23 x0 x2 x3 x4 q) (fun o : Int32 => y_in o (0) (1)) := by
  unfold kb_Mo_isWrong_23
  refine z_ok_i (fun c234038 => ?_) (fun c234038 => ?_)
  · have z234039 : y_in x4 (64) (64) := z_w (z_le2 c234038 (show y_in (64 : Int32) (64) (64) from ⟨by decide, by decide⟩) hx4) (by decide) (by decide)
    refine z_ok_G (z_bi hx3) ?_
    exact z_ok_s hx3
  · have z234040 : y_in x4 (48) (63) := z_w (z_nle2 c234038 (show y_in (64 : Int32) (64) (64) from ⟨by decide, by decide⟩) hx4) (by decide) (by decide)
    refine z_ok_i (fun c234041 => ?_) (fun c234041 => ?_)
    · have z234042 : y_in x3 (0) (0) := z_w (z_eq1 c234041 (show y_in (0 : Int32) (0) (0) from ⟨by decide, by decide⟩)) (by decide) (by decide)
      refine z_ok_i (fun c234043 => ?_) (fun c234043 => ?_)
      · exact t_k_Mo_isWrong_50 W S ih23 x0 x2 x4 (1 : Int32) q hi23 hx2 z234040 (z_w (show y_in (1 : Int32) (1) (1) from ⟨by decide, by decide⟩) (by decide) (by decide)) hq hW
      · exact t_k_Mo_isWrong_50 W S ih23 x0 x2 x4 (0 : Int32) q hi23 hx2 z234040 (z_w (show y_in (0 : Int32) (0) (0) from ⟨by decide, by decide⟩) (by decide) (by decide)) hq hW
    · have z234044 : y_in x3 (1) (1) := z_w (z_ne1 c234041 hx3 (by decide)) (by decide) (by decide)
      exact t_k_Mo_isWrong_54 W S ih23 x0 x2 x4 q hi23 hx2 z234040 hq hW

set_option maxHeartbeats 4000000 in
set_option maxRecDepth 100000 in
theorem t_k_Mo_isWrong_23 (W : Nat) (S : z_SS) (x0 : Int64) (x2 : Int32) (x3 : Int32) (x4 : Int32) (q : z_Sg) (hx2 : y_in x2 (0) (1)) (hx3 : y_in x3 (0) (0)) (hx4 : y_in x4 (48) (48)) (hq : iM W S q) (hW : W + 0 ≤ 16) : z_ok (k_Mo_isWrong_23 x0 x2 x3 x4 q) (fun o : Int32 => y_in o (0) (1)) := by
  unfold k_Mo_isWrong_23
  refine z_ok_l (fun a : Int64 × Int32 × Int32 × Int32 => y_in a.2.1 (0) (1) ∧ y_in a.2.2.1 (0) (1) ∧ y_in a.2.2.2 (48) (64)) (fun a => (64 - a.2.2.2.toInt).toNat) ?_ (x0, x2, x3, x4) ⟨hx2, (z_w hx3 (by decide) (by decide)), (z_w hx4 (by decide) (by decide))⟩ (by show ((64 - x4.toInt).toNat) < 2000; have z1 := hx4.1; have z2 := hx4.2; omega)
  intro ih a ha hih
  exact t_kb_Mo_isWrong_23 W S ih a.1 a.2.1 a.2.2.1 a.2.2.2 q (fun x0' x2' x3' x4' hx2' hx3' hx4' hm => hih (x0', x2', x3', x4') ⟨hx2', hx3', hx4'⟩ hm) ha.1 ha.2.1 ha.2.2 hq hW

set_option maxHeartbeats 4000000 in
set_option maxRecDepth 100000 in
theorem t_k_Mo_isWrong_16 (W : Nat) (S : z_SS) (x0 : Int64) (t0 : Int32) (q : z_Sg) (ht0 : y_in t0 (0) (1)) (hq : iM W S q) (hW : W + 0 ≤ 16) : z_ok (k_Mo_isWrong_16 x0 t0 q) (fun o : Int32 => y_in o (0) (1)) := by
  unfold k_Mo_isWrong_16
  exact t_k_Mo_isWrong_23 W S x0 t0 (0 : Int32) (48 : Int32) q ht0 (show y_in (0 : Int32) (0) (0) from ⟨by decide, by decide⟩) (show y_in (48 : Int32) (48) (48) from ⟨by decide, by decide⟩) hq hW

set_option maxHeartbeats 4000000 in
set_option maxRecDepth 100000 in
theorem t_f_Mo_isWrong (W : Nat) (S : z_SS) (x0 : Int64) (q : z_Sg) (hq : iM W S q) (hW : W + 0 ≤ 16) : z_ok (f_Mo_isWrong x0 q) (fun o : Int32 => y_in o (0) (1)) := by
  unfold f_Mo_isWrong
  refine z_ok_i (fun c234045 => ?_) (fun c234045 => ?_)
  · exact t_k_Mo_isWrong_16 W S x0 (1 : Int32) q (z_w (show y_in (1 : Int32) (1) (1) from ⟨by decide, by decide⟩) (by decide) (by decide)) hq hW
  · exact t_k_Mo_isWrong_16 W S x0 (0 : Int32) q (z_w (show y_in (0 : Int32) (0) (0) from ⟨by decide, by decide⟩) (by decide) (by decide)) hq hW

set_option maxHeartbeats 4000000 in
set_option maxRecDepth 100000 in
theorem t_f_Mo_bits (W : Nat) (S : z_SS) (x0 : Int64) (x2 : Int32) (x3 : Int32) (q : z_Sg) (hq : iM W S q) (hW : W + 0 ≤ 16) : z_ok (f_Mo_bits x0 x2 x3 q) (fun _ : Int64 => True) := by
  unfold f_Mo_bits
  exact z_ok_s trivial

set_option maxHeartbeats 4000000 in
set_option maxRecDepth 100000 in
theorem t_k_Mo_find_379 (W : Nat) (S : z_SS) (t0 : Int64) (q : z_Sg) (hq : iM W S q) (hW : W + 0 ≤ 16) : z_ok (k_Mo_find_379 t0 q) (fun o : Int64 × z_Sg => iM W S o.2) := by
  unfold k_Mo_find_379
  exact z_ok_s hq

set_option maxHeartbeats 4000000 in
set_option maxRecDepth 100000 in
theorem t_k_Mo_find_340 (W : Nat) (S : z_SS) (x1 : Int64) (x5 : Int64) (x10 : Int32) (x11 : Int64) (q : z_Sg) (hx10 : y_in x10 (0) (3)) (hq : iM W S q) (hW : W + 0 ≤ 16) : z_ok (k_Mo_find_340 x1 x5 x10 x11 q) (fun o : Int64 × z_Sg => iM W S o.2) := by
  unfold k_Mo_find_340
  refine z_ok_i (fun c234046 => ?_) (fun c234046 => ?_)
  · have z234047 : y_in x10 (1) (1) := z_w (z_eq1 c234046 (show y_in (1 : Int32) (1) (1) from ⟨by decide, by decide⟩)) (by decide) (by decide)
    refine z_ok_b (t_f_Mo_bits W S x11 (21 : Int32) (51 : Int32) q hq (by omega)) (fun r14 hr14 => ?_)
    refine z_ok_b (t_f_Mo_bits W S x1 (0 : Int32) (20 : Int32) q hq (by omega)) (fun r15 hr15 => ?_)
    exact t_k_Mo_find_379 W S ((z_lshl r14 (21 : Int32)) + r15) q hq hW
  · refine z_ok_b (t_f_Mo_bits W S x1 (0 : Int32) (11 : Int32) q hq (by omega)) (fun r13 hr13 => ?_)
    exact t_k_Mo_find_379 W S (x5 + r13) q hq hW

set_option maxHeartbeats 4000000 in
set_option maxRecDepth 100000 in
theorem t_k_Mo_find_336 (W : Nat) (S : z_SS) (q : z_Sg) (hq : iM W S q) (hW : W + 0 ≤ 16) : z_ok (k_Mo_find_336 q) (fun o : Int64 × z_Sg => iM W S o.2) := by
  unfold k_Mo_find_336
  exact z_ok_s hq

set_option maxHeartbeats 4000000 in
set_option maxRecDepth 100000 in
theorem t_k_Mo_find_326 (W : Nat) (S : z_SS) (x1 : Int64) (x3 : Int32) (x5 : Int64) (x9 : Int32) (x10 : Int32) (x11 : Int64) (q : z_Sg) (hx3 : y_in x3 (0) (2)) (hx9 : y_in x9 (0) (1)) (hx10 : y_in x10 (0) (3)) (hq : iM W S q) (hW : W + 0 ≤ 16) : z_ok (k_Mo_find_326 x1 x3 x5 x9 x10 x11 q) (fun o : Int64 × z_Sg => iM W S o.2) := by
  unfold k_Mo_find_326
  refine z_ok_i (fun c234048 => ?_) (fun c234048 => ?_)
  · have z234049 : y_in x3 (2) (2) := z_w (z_eq1 c234048 (show y_in (2 : Int32) (2) (2) from ⟨by decide, by decide⟩)) (by decide) (by decide)
    refine z_ok_i (fun c234050 => ?_) (fun c234050 => ?_)
    · have z234051 : y_in x9 (0) (0) := z_w (z_eq1 c234050 (show y_in (0 : Int32) (0) (0) from ⟨by decide, by decide⟩)) (by decide) (by decide)
      exact t_k_Mo_find_336 W S q hq hW
    · have z234052 : y_in x9 (1) (1) := z_w (z_ne1 c234050 hx9 (by decide)) (by decide) (by decide)
      exact t_k_Mo_find_340 W S x1 x5 x10 x11 q hx10 hq hW
  · have z234053 : y_in x3 (0) (1) := z_w (z_ne2 c234048 hx3 (by decide)) (by decide) (by decide)
    exact t_k_Mo_find_340 W S x1 x5 x10 x11 q hx10 hq hW

set_option maxHeartbeats 4000000 in
set_option maxRecDepth 100000 in
theorem t_k_Mo_find_314 (W : Nat) (S : z_SS) (x1 : Int64) (x3 : Int32) (x5 : Int64) (x8 : Int32) (x9 : Int32) (x10 : Int32) (x11 : Int64) (q : z_Sg) (hx3 : y_in x3 (0) (2)) (hx8 : y_in x8 (0) (1)) (hx9 : y_in x9 (0) (1)) (hx10 : y_in x10 (0) (3)) (hq : iM W S q) (hW : W + 0 ≤ 16) : z_ok (k_Mo_find_314 x1 x3 x5 x8 x9 x10 x11 q) (fun o : Int64 × z_Sg => iM W S o.2) := by
  unfold k_Mo_find_314
  refine z_ok_i (fun c234054 => ?_) (fun c234054 => ?_)
  · have z234055 : y_in (z_gI q 2) (0) (0) := z_w (z_eq1 c234054 (show y_in (0 : Int32) (0) (0) from ⟨by decide, by decide⟩)) (by decide) (by decide)
    exact t_k_Mo_find_326 W S x1 x3 x5 x9 x10 x11 q hx3 hx9 hx10 hq hW
  · have z234056 : y_in (z_gI q 2) (1) (1) := z_w (z_ne1 c234054 (iM_f2 hq) (by decide)) (by decide) (by decide)
    refine z_ok_i (fun c234057 => ?_) (fun c234057 => ?_)
    · have z234058 : y_in x8 (0) (0) := z_w (z_eq1 c234057 (show y_in (0 : Int32) (0) (0) from ⟨by decide, by decide⟩)) (by decide) (by decide)
      exact t_k_Mo_find_336 W S q hq hW
    · have z234059 : y_in x8 (1) (1) := z_w (z_ne1 c234057 hx8 (by decide)) (by decide) (by decide)
      exact t_k_Mo_find_326 W S x1 x3 x5 x9 x10 x11 q hx3 hx9 hx10 hq hW

set_option maxHeartbeats 4000000 in
set_option maxRecDepth 100000 in
theorem t_k_Mo_find_293 (W : Nat) (S : z_SS) (ih71 : Int64 × Int32 × Int32 × Int64 × Int32 × Int32 × Int32 × Int32 × Int64 × Int32 × z_Sg → Option (Int64 × z_Sg)) (x1 : Int64) (x3 : Int32) (x4 : Int32) (x5 : Int64) (x7 : Int32) (x8 : Int32) (x9 : Int32) (x10 : Int32) (x11 : Int64) (x13 : Int32) (q : z_Sg) (N71 : Nat) (hi71 : ∀ (x1' : Int64) (x3' : Int32) (x4' : Int32) (x5' : Int64) (x7' : Int32) (x8' : Int32) (x9' : Int32) (x10' : Int32) (x11' : Int64) (x13' : Int32) (q' : z_Sg), y_in x3' (0) (2) → y_in x4' (0) (22) → y_in x7' (0) (1) → y_in x8' (0) (1) → y_in x9' (0) (1) → y_in x10' (0) (3) → y_in x13' (0) (1) → iM W S q' → (2 * x10'.toInt + 3 - x13'.toInt).toNat < N71 → z_ok (ih71 (x1', x3', x4', x5', x7', x8', x9', x10', x11', x13', q')) (fun o : Int64 × z_Sg => iM W S o.2)) (hN71 : (2 * x10.toInt + 3 - x13.toInt).toNat < N71) (hx3 : y_in x3 (0) (2)) (hx4 : y_in x4 (0) (22)) (hx7 : y_in x7 (0) (1)) (hx8 : y_in x8 (0) (1)) (hx9 : y_in x9 (0) (1)) (hx10 : y_in x10 (0) (3)) (hx13 : y_in x13 (0) (1)) (hq : iM W S q) (hW : W + 0 ≤ 16) : z_ok (k_Mo_find_293 ih71 x1 x3 x4 x5 x7 x8 x9 x10 x11 x13 q) (fun o : Int64 × z_Sg => iM W S o.2) := by
  unfold k_Mo_find_293
  exact hi71 x1 x3 x4 x5 x7 x8 x9 x10 x11 x13 q hx3 hx4 hx7 hx8 hx9 hx10 hx13 hq hN71

set_option maxHeartbeats 4000000 in
set_option maxRecDepth 100000 in
theorem t_k_Mo_find_283 (W : Nat) (S : z_SS) (ih71 : Int64 × Int32 × Int32 × Int64 × Int32 × Int32 × Int32 × Int32 × Int64 × Int32 × z_Sg → Option (Int64 × z_Sg)) (x1 : Int64) (x3 : Int32) (x4 : Int32) (x5 : Int64) (x7 : Int32) (x8 : Int32) (x9 : Int32) (x10 : Int32) (x11 : Int64) (t0 : Int32) (q : z_Sg) (N71 : Nat) (hi71 : ∀ (x1' : Int64) (x3' : Int32) (x4' : Int32) (x5' : Int64) (x7' : Int32) (x8' : Int32) (x9' : Int32) (x10' : Int32) (x11' : Int64) (x13' : Int32) (q' : z_Sg), y_in x3' (0) (2) → y_in x4' (0) (22) → y_in x7' (0) (1) → y_in x8' (0) (1) → y_in x9' (0) (1) → y_in x10' (0) (3) → y_in x13' (0) (1) → iM W S q' → (2 * x10'.toInt + 3 - x13'.toInt).toNat < N71 → z_ok (ih71 (x1', x3', x4', x5', x7', x8', x9', x10', x11', x13', q')) (fun o : Int64 × z_Sg => iM W S o.2)) (hN71 : (2 * x10.toInt + 3).toNat ≤ N71) (hx3 : y_in x3 (0) (2)) (hx4 : y_in x4 (0) (22)) (hx7 : y_in x7 (0) (1)) (hx8 : y_in x8 (0) (1)) (hx9 : y_in x9 (0) (1)) (hx10 : y_in x10 (0) (3)) (ht0 : y_in t0 (0) (1)) (hq : iM W S q) (hW : W + 0 ≤ 16) (h283 : t0 = 0 → 1 ≤ x10.toInt) : z_ok (k_Mo_find_283 ih71 x1 x3 x4 x5 x7 x8 x9 x10 x11 t0 q) (fun o : Int64 × z_Sg => iM W S o.2) := by
  unfold k_Mo_find_283
  refine z_ok_i (fun c => ?_) (fun c => ?_)
  · refine z_ok_n (fun n33 en33 => ?_)
    have h1 := h283 c
    have h2 := hx10.2
    have e1 : n33.toInt = x10.toInt - 1 := by
      rw [en33, Int32.toInt_add, show (-1 : Int32).toInt = -1 from rfl]
      exact z_bmod (by omega) (by omega)
    have hn33 : y_in n33 (0) (3) := ⟨by omega, by omega⟩
    exact t_k_Mo_find_293 W S ih71 x1 x3 x4 x5 x7 x8 x9 n33 x11 t0 q N71 hi71 (by rw [c, Int32.toInt_zero, e1]; omega) hx3 hx4 hx7 hx8 hx9 hn33 ht0 hq hW
  · have h1 : y_in t0 1 1 := z_w (z_ne1 c ht0 (by decide)) (by decide) (by decide)
    have h2 := h1.1; have h3 := hx10.1; have h4 := h1.2
    exact t_k_Mo_find_293 W S ih71 x1 x3 x4 x5 x7 x8 x9 x10 x11 t0 q N71 hi71 (by omega) hx3 hx4 hx7 hx8 hx9 hx10 ht0 hq hW

set_option maxHeartbeats 4000000 in
set_option maxRecDepth 100000 in
theorem t_k_Mo_find_278 (W : Nat) (S : z_SS) (ih71 : Int64 × Int32 × Int32 × Int64 × Int32 × Int32 × Int32 × Int32 × Int64 × Int32 × z_Sg → Option (Int64 × z_Sg)) (x1 : Int64) (x3 : Int32) (x4 : Int32) (x5 : Int64) (x7 : Int32) (x8 : Int32) (x9 : Int32) (x10 : Int32) (x11 : Int64) (q : z_Sg) (N71 : Nat) (hi71 : ∀ (x1' : Int64) (x3' : Int32) (x4' : Int32) (x5' : Int64) (x7' : Int32) (x8' : Int32) (x9' : Int32) (x10' : Int32) (x11' : Int64) (x13' : Int32) (q' : z_Sg), y_in x3' (0) (2) → y_in x4' (0) (22) → y_in x7' (0) (1) → y_in x8' (0) (1) → y_in x9' (0) (1) → y_in x10' (0) (3) → y_in x13' (0) (1) → iM W S q' → (2 * x10'.toInt + 3 - x13'.toInt).toNat < N71 → z_ok (ih71 (x1', x3', x4', x5', x7', x8', x9', x10', x11', x13', q')) (fun o : Int64 × z_Sg => iM W S o.2)) (hN71 : (2 * x10.toInt + 3).toNat ≤ N71) (hx3 : y_in x3 (0) (2)) (hx4 : y_in x4 (0) (22)) (hx7 : y_in x7 (0) (1)) (hx8 : y_in x8 (0) (1)) (hx9 : y_in x9 (0) (1)) (hx10 : y_in x10 (0) (3)) (hq : iM W S q) (hW : W + 0 ≤ 16) : z_ok (k_Mo_find_278 ih71 x1 x3 x4 x5 x7 x8 x9 x10 x11 q) (fun o : Int64 × z_Sg => iM W S o.2) := by
  unfold k_Mo_find_278
  exact t_k_Mo_find_283 W S ih71 x1 x3 x4 x5 x7 x8 x9 x10 x11 (1 : Int32) q N71 hi71 hN71 hx3 hx4 hx7 hx8 hx9 hx10 (z_w (show y_in (1 : Int32) (1) (1) from ⟨by decide, by decide⟩) (by decide) (by decide)) hq hW (fun e => absurd e (by decide))

set_option maxHeartbeats 4000000 in
set_option maxRecDepth 100000 in
theorem t_k_Mo_find_252 (W : Nat) (S : z_SS) (ih71 : Int64 × Int32 × Int32 × Int64 × Int32 × Int32 × Int32 × Int32 × Int64 × Int32 × z_Sg → Option (Int64 × z_Sg)) (x1 : Int64) (x3 : Int32) (x4 : Int32) (x7 : Int32) (x8 : Int32) (x10 : Int32) (x11 : Int64) (x14 : Int32) (t0 : Int32) (q : z_Sg) (N71 : Nat) (hi71 : ∀ (x1' : Int64) (x3' : Int32) (x4' : Int32) (x5' : Int64) (x7' : Int32) (x8' : Int32) (x9' : Int32) (x10' : Int32) (x11' : Int64) (x13' : Int32) (q' : z_Sg), y_in x3' (0) (2) → y_in x4' (0) (22) → y_in x7' (0) (1) → y_in x8' (0) (1) → y_in x9' (0) (1) → y_in x10' (0) (3) → y_in x13' (0) (1) → iM W S q' → (2 * x10'.toInt + 3 - x13'.toInt).toNat < N71 → z_ok (ih71 (x1', x3', x4', x5', x7', x8', x9', x10', x11', x13', q')) (fun o : Int64 × z_Sg => iM W S o.2)) (hN71 : (2 * x10.toInt + 3).toNat ≤ N71) (hx3 : y_in x3 (0) (2)) (hx4 : y_in x4 (0) (22)) (hx7 : y_in x7 (0) (1)) (hx8 : y_in x8 (0) (1)) (hx10 : y_in x10 (0) (3)) (hx14 : y_in x14 (0) (1)) (ht0 : y_in t0 (0) (1)) (hq : iM W S q) (hW : W + 0 ≤ 16) : z_ok (k_Mo_find_252 ih71 x1 x3 x4 x7 x8 x10 x11 x14 t0 q) (fun o : Int64 × z_Sg => iM W S o.2) := by
  unfold k_Mo_find_252
  refine z_ok_b (t_f_Mo_bits W S x11 (12 : Int32) (51 : Int32) q hq (by omega)) (fun r29 hr29 => ?_)
  refine z_ok_n (fun n30 en30 => ?_)
  refine z_ok_i (fun c234060 => ?_) (fun c234060 => ?_)
  · have z234061 : y_in x14 (0) (0) := z_w (z_eq1 c234060 (show y_in (0 : Int32) (0) (0) from ⟨by decide, by decide⟩)) (by decide) (by decide)
    refine z_ok_i (fun c234062 => ?_) (fun c234062 => ?_)
    · have z234063 : y_in x10 (0) (0) := z_w (z_eq1 c234062 (show y_in (0 : Int32) (0) (0) from ⟨by decide, by decide⟩)) (by decide) (by decide)
      exact t_k_Mo_find_278 W S ih71 x1 x3 x4 n30 x7 x8 t0 x10 x11 q N71 hi71 hN71 hx3 hx4 hx7 hx8 ht0 (z_w z234063 (by decide) (by decide)) hq hW
    · have z234064 : y_in x10 (1) (3) := z_w (z_ne1 c234062 hx10 (by decide)) (by decide) (by decide)
      exact t_k_Mo_find_283 W S ih71 x1 x3 x4 n30 x7 x8 t0 x10 x11 (0 : Int32) q N71 hi71 hN71 hx3 hx4 hx7 hx8 ht0 (z_w z234064 (by decide) (by decide)) (z_w (show y_in (0 : Int32) (0) (0) from ⟨by decide, by decide⟩) (by decide) (by decide)) hq hW (fun _ => z234064.1)
  · have z234065 : y_in x14 (1) (1) := z_w (z_ne1 c234060 hx14 (by decide)) (by decide) (by decide)
    exact t_k_Mo_find_278 W S ih71 x1 x3 x4 n30 x7 x8 t0 x10 x11 q N71 hi71 hN71 hx3 hx4 hx7 hx8 ht0 hx10 hq hW

set_option maxHeartbeats 4000000 in
set_option maxRecDepth 100000 in
theorem t_k_Mo_find_251 (W : Nat) (S : z_SS) (ih71 : Int64 × Int32 × Int32 × Int64 × Int32 × Int32 × Int32 × Int32 × Int64 × Int32 × z_Sg → Option (Int64 × z_Sg)) (x1 : Int64) (x3 : Int32) (x4 : Int32) (x7 : Int32) (x8 : Int32) (x10 : Int32) (x11 : Int64) (x14 : Int32) (q : z_Sg) (N71 : Nat) (hi71 : ∀ (x1' : Int64) (x3' : Int32) (x4' : Int32) (x5' : Int64) (x7' : Int32) (x8' : Int32) (x9' : Int32) (x10' : Int32) (x11' : Int64) (x13' : Int32) (q' : z_Sg), y_in x3' (0) (2) → y_in x4' (0) (22) → y_in x7' (0) (1) → y_in x8' (0) (1) → y_in x9' (0) (1) → y_in x10' (0) (3) → y_in x13' (0) (1) → iM W S q' → (2 * x10'.toInt + 3 - x13'.toInt).toNat < N71 → z_ok (ih71 (x1', x3', x4', x5', x7', x8', x9', x10', x11', x13', q')) (fun o : Int64 × z_Sg => iM W S o.2)) (hN71 : (2 * x10.toInt + 3).toNat ≤ N71) (hx3 : y_in x3 (0) (2)) (hx4 : y_in x4 (0) (22)) (hx7 : y_in x7 (0) (1)) (hx8 : y_in x8 (0) (1)) (hx10 : y_in x10 (0) (3)) (hx14 : y_in x14 (0) (1)) (hq : iM W S q) (hW : W + 0 ≤ 16) : z_ok (k_Mo_find_251 ih71 x1 x3 x4 x7 x8 x10 x11 x14 q) (fun o : Int64 × z_Sg => iM W S o.2) := by
  unfold k_Mo_find_251
  exact t_k_Mo_find_252 W S ih71 x1 x3 x4 x7 x8 x10 x11 x14 (0 : Int32) q N71 hi71 hN71 hx3 hx4 hx7 hx8 hx10 hx14 (z_w (show y_in (0 : Int32) (0) (0) from ⟨by decide, by decide⟩) (by decide) (by decide)) hq hW

set_option maxHeartbeats 4000000 in
set_option maxRecDepth 100000 in
theorem t_k_Mo_find_233 (W : Nat) (S : z_SS) (ih71 : Int64 × Int32 × Int32 × Int64 × Int32 × Int32 × Int32 × Int32 × Int64 × Int32 × z_Sg → Option (Int64 × z_Sg)) (x1 : Int64) (x3 : Int32) (x4 : Int32) (x7 : Int32) (x9 : Int32) (x10 : Int32) (x11 : Int64) (x14 : Int32) (t0 : Int32) (q : z_Sg) (N71 : Nat) (hi71 : ∀ (x1' : Int64) (x3' : Int32) (x4' : Int32) (x5' : Int64) (x7' : Int32) (x8' : Int32) (x9' : Int32) (x10' : Int32) (x11' : Int64) (x13' : Int32) (q' : z_Sg), y_in x3' (0) (2) → y_in x4' (0) (22) → y_in x7' (0) (1) → y_in x8' (0) (1) → y_in x9' (0) (1) → y_in x10' (0) (3) → y_in x13' (0) (1) → iM W S q' → (2 * x10'.toInt + 3 - x13'.toInt).toNat < N71 → z_ok (ih71 (x1', x3', x4', x5', x7', x8', x9', x10', x11', x13', q')) (fun o : Int64 × z_Sg => iM W S o.2)) (hN71 : (2 * x10.toInt + 3).toNat ≤ N71) (hx3 : y_in x3 (0) (2)) (hx4 : y_in x4 (0) (22)) (hx7 : y_in x7 (0) (1)) (hx9 : y_in x9 (0) (1)) (hx10 : y_in x10 (0) (3)) (hx14 : y_in x14 (0) (1)) (ht0 : y_in t0 (0) (1)) (hq : iM W S q) (hW : W + 0 ≤ 16) : z_ok (k_Mo_find_233 ih71 x1 x3 x4 x7 x9 x10 x11 x14 t0 q) (fun o : Int64 × z_Sg => iM W S o.2) := by
  unfold k_Mo_find_233
  refine z_ok_i (fun c234066 => ?_) (fun c234066 => ?_)
  · have z234067 : y_in x9 (0) (0) := z_w (z_eq1 c234066 (show y_in (0 : Int32) (0) (0) from ⟨by decide, by decide⟩)) (by decide) (by decide)
    exact t_k_Mo_find_251 W S ih71 x1 x3 x4 x7 t0 x10 x11 x14 q N71 hi71 hN71 hx3 hx4 hx7 ht0 hx10 hx14 hq hW
  · have z234068 : y_in x9 (1) (1) := z_w (z_ne1 c234066 hx9 (by decide)) (by decide) (by decide)
    refine z_ok_i (fun c234069 => ?_) (fun c234069 => ?_)
    · exact t_k_Mo_find_251 W S ih71 x1 x3 x4 x7 t0 x10 x11 x14 q N71 hi71 hN71 hx3 hx4 hx7 ht0 hx10 hx14 hq hW
    · exact t_k_Mo_find_252 W S ih71 x1 x3 x4 x7 t0 x10 x11 x14 (1 : Int32) q N71 hi71 hN71 hx3 hx4 hx7 ht0 hx10 hx14 (z_w (show y_in (1 : Int32) (1) (1) from ⟨by decide, by decide⟩) (by decide) (by decide)) hq hW

set_option maxHeartbeats 4000000 in
set_option maxRecDepth 100000 in
theorem t_k_Mo_find_232 (W : Nat) (S : z_SS) (ih71 : Int64 × Int32 × Int32 × Int64 × Int32 × Int32 × Int32 × Int32 × Int64 × Int32 × z_Sg → Option (Int64 × z_Sg)) (x1 : Int64) (x3 : Int32) (x4 : Int32) (x7 : Int32) (x9 : Int32) (x10 : Int32) (x11 : Int64) (x14 : Int32) (q : z_Sg) (N71 : Nat) (hi71 : ∀ (x1' : Int64) (x3' : Int32) (x4' : Int32) (x5' : Int64) (x7' : Int32) (x8' : Int32) (x9' : Int32) (x10' : Int32) (x11' : Int64) (x13' : Int32) (q' : z_Sg), y_in x3' (0) (2) → y_in x4' (0) (22) → y_in x7' (0) (1) → y_in x8' (0) (1) → y_in x9' (0) (1) → y_in x10' (0) (3) → y_in x13' (0) (1) → iM W S q' → (2 * x10'.toInt + 3 - x13'.toInt).toNat < N71 → z_ok (ih71 (x1', x3', x4', x5', x7', x8', x9', x10', x11', x13', q')) (fun o : Int64 × z_Sg => iM W S o.2)) (hN71 : (2 * x10.toInt + 3).toNat ≤ N71) (hx3 : y_in x3 (0) (2)) (hx4 : y_in x4 (0) (22)) (hx7 : y_in x7 (0) (1)) (hx9 : y_in x9 (0) (1)) (hx10 : y_in x10 (0) (3)) (hx14 : y_in x14 (0) (1)) (hq : iM W S q) (hW : W + 0 ≤ 16) : z_ok (k_Mo_find_232 ih71 x1 x3 x4 x7 x9 x10 x11 x14 q) (fun o : Int64 × z_Sg => iM W S o.2) := by
  unfold k_Mo_find_232
  exact t_k_Mo_find_233 W S ih71 x1 x3 x4 x7 x9 x10 x11 x14 (0 : Int32) q N71 hi71 hN71 hx3 hx4 hx7 hx9 hx10 hx14 (z_w (show y_in (0 : Int32) (0) (0) from ⟨by decide, by decide⟩) (by decide) (by decide)) hq hW

set_option maxHeartbeats 4000000 in
set_option maxRecDepth 100000 in
theorem t_k_Mo_find_210 (W : Nat) (S : z_SS) (ih71 : Int64 × Int32 × Int32 × Int64 × Int32 × Int32 × Int32 × Int32 × Int64 × Int32 × z_Sg → Option (Int64 × z_Sg)) (x1 : Int64) (x3 : Int32) (x4 : Int32) (x8 : Int32) (x9 : Int32) (x10 : Int32) (x11 : Int64) (x14 : Int32) (t0 : Int32) (q : z_Sg) (N71 : Nat) (hi71 : ∀ (x1' : Int64) (x3' : Int32) (x4' : Int32) (x5' : Int64) (x7' : Int32) (x8' : Int32) (x9' : Int32) (x10' : Int32) (x11' : Int64) (x13' : Int32) (q' : z_Sg), y_in x3' (0) (2) → y_in x4' (0) (22) → y_in x7' (0) (1) → y_in x8' (0) (1) → y_in x9' (0) (1) → y_in x10' (0) (3) → y_in x13' (0) (1) → iM W S q' → (2 * x10'.toInt + 3 - x13'.toInt).toNat < N71 → z_ok (ih71 (x1', x3', x4', x5', x7', x8', x9', x10', x11', x13', q')) (fun o : Int64 × z_Sg => iM W S o.2)) (hN71 : (2 * x10.toInt + 3).toNat ≤ N71) (hx3 : y_in x3 (0) (2)) (hx4 : y_in x4 (0) (22)) (hx8 : y_in x8 (0) (1)) (hx9 : y_in x9 (0) (1)) (hx10 : y_in x10 (0) (3)) (hx14 : y_in x14 (0) (1)) (ht0 : y_in t0 (0) (1)) (hq : iM W S q) (hW : W + 0 ≤ 16) : z_ok (k_Mo_find_210 ih71 x1 x3 x4 x8 x9 x10 x11 x14 t0 q) (fun o : Int64 × z_Sg => iM W S o.2) := by
  unfold k_Mo_find_210
  refine z_ok_i (fun c234070 => ?_) (fun c234070 => ?_)
  · have z234071 : y_in x8 (0) (0) := z_w (z_eq1 c234070 (show y_in (0 : Int32) (0) (0) from ⟨by decide, by decide⟩)) (by decide) (by decide)
    exact t_k_Mo_find_232 W S ih71 x1 x3 x4 t0 x9 x10 x11 x14 q N71 hi71 hN71 hx3 hx4 ht0 hx9 hx10 hx14 hq hW
  · have z234072 : y_in x8 (1) (1) := z_w (z_ne1 c234070 hx8 (by decide)) (by decide) (by decide)
    refine z_ok_i (fun c234073 => ?_) (fun c234073 => ?_)
    · exact t_k_Mo_find_232 W S ih71 x1 x3 x4 t0 x9 x10 x11 x14 q N71 hi71 hN71 hx3 hx4 ht0 hx9 hx10 hx14 hq hW
    · exact t_k_Mo_find_233 W S ih71 x1 x3 x4 t0 x9 x10 x11 x14 (1 : Int32) q N71 hi71 hN71 hx3 hx4 ht0 hx9 hx10 hx14 (z_w (show y_in (1 : Int32) (1) (1) from ⟨by decide, by decide⟩) (by decide) (by decide)) hq hW

set_option maxHeartbeats 4000000 in
set_option maxRecDepth 100000 in
theorem t_k_Mo_find_209 (W : Nat) (S : z_SS) (ih71 : Int64 × Int32 × Int32 × Int64 × Int32 × Int32 × Int32 × Int32 × Int64 × Int32 × z_Sg → Option (Int64 × z_Sg)) (x1 : Int64) (x3 : Int32) (x4 : Int32) (x8 : Int32) (x9 : Int32) (x10 : Int32) (x11 : Int64) (x14 : Int32) (q : z_Sg) (N71 : Nat) (hi71 : ∀ (x1' : Int64) (x3' : Int32) (x4' : Int32) (x5' : Int64) (x7' : Int32) (x8' : Int32) (x9' : Int32) (x10' : Int32) (x11' : Int64) (x13' : Int32) (q' : z_Sg), y_in x3' (0) (2) → y_in x4' (0) (22) → y_in x7' (0) (1) → y_in x8' (0) (1) → y_in x9' (0) (1) → y_in x10' (0) (3) → y_in x13' (0) (1) → iM W S q' → (2 * x10'.toInt + 3 - x13'.toInt).toNat < N71 → z_ok (ih71 (x1', x3', x4', x5', x7', x8', x9', x10', x11', x13', q')) (fun o : Int64 × z_Sg => iM W S o.2)) (hN71 : (2 * x10.toInt + 3).toNat ≤ N71) (hx3 : y_in x3 (0) (2)) (hx4 : y_in x4 (0) (22)) (hx8 : y_in x8 (0) (1)) (hx9 : y_in x9 (0) (1)) (hx10 : y_in x10 (0) (3)) (hx14 : y_in x14 (0) (1)) (hq : iM W S q) (hW : W + 0 ≤ 16) : z_ok (k_Mo_find_209 ih71 x1 x3 x4 x8 x9 x10 x11 x14 q) (fun o : Int64 × z_Sg => iM W S o.2) := by
  unfold k_Mo_find_209
  exact t_k_Mo_find_210 W S ih71 x1 x3 x4 x8 x9 x10 x11 x14 (0 : Int32) q N71 hi71 hN71 hx3 hx4 hx8 hx9 hx10 hx14 (z_w (show y_in (0 : Int32) (0) (0) from ⟨by decide, by decide⟩) (by decide) (by decide)) hq hW

set_option maxHeartbeats 4000000 in
set_option maxRecDepth 100000 in
theorem t_k_Mo_find_189 (W : Nat) (S : z_SS) (ih71 : Int64 × Int32 × Int32 × Int64 × Int32 × Int32 × Int32 × Int32 × Int64 × Int32 × z_Sg → Option (Int64 × z_Sg)) (x1 : Int64) (x3 : Int32) (x4 : Int32) (x7 : Int32) (x8 : Int32) (x9 : Int32) (x10 : Int32) (x11 : Int64) (x14 : Int32) (q : z_Sg) (N71 : Nat) (hi71 : ∀ (x1' : Int64) (x3' : Int32) (x4' : Int32) (x5' : Int64) (x7' : Int32) (x8' : Int32) (x9' : Int32) (x10' : Int32) (x11' : Int64) (x13' : Int32) (q' : z_Sg), y_in x3' (0) (2) → y_in x4' (0) (22) → y_in x7' (0) (1) → y_in x8' (0) (1) → y_in x9' (0) (1) → y_in x10' (0) (3) → y_in x13' (0) (1) → iM W S q' → (2 * x10'.toInt + 3 - x13'.toInt).toNat < N71 → z_ok (ih71 (x1', x3', x4', x5', x7', x8', x9', x10', x11', x13', q')) (fun o : Int64 × z_Sg => iM W S o.2)) (hN71 : (2 * x10.toInt + 3).toNat ≤ N71) (hx3 : y_in x3 (0) (2)) (hx4 : y_in x4 (0) (22)) (hx7 : y_in x7 (0) (1)) (hx8 : y_in x8 (0) (1)) (hx9 : y_in x9 (0) (1)) (hx10 : y_in x10 (0) (3)) (hx14 : y_in x14 (0) (1)) (hq : iM W S q) (hW : W + 0 ≤ 16) : z_ok (k_Mo_find_189 ih71 x1 x3 x4 x7 x8 x9 x10 x11 x14 q) (fun o : Int64 × z_Sg => iM W S o.2) := by
  unfold k_Mo_find_189
  refine z_ok_i (fun c234074 => ?_) (fun c234074 => ?_)
  · have z234075 : y_in x7 (0) (0) := z_w (z_eq1 c234074 (show y_in (0 : Int32) (0) (0) from ⟨by decide, by decide⟩)) (by decide) (by decide)
    exact t_k_Mo_find_209 W S ih71 x1 x3 x4 x8 x9 x10 x11 x14 q N71 hi71 hN71 hx3 hx4 hx8 hx9 hx10 hx14 hq hW
  · have z234076 : y_in x7 (1) (1) := z_w (z_ne1 c234074 hx7 (by decide)) (by decide) (by decide)
    refine z_ok_i (fun c234077 => ?_) (fun c234077 => ?_)
    · exact t_k_Mo_find_209 W S ih71 x1 x3 x4 x8 x9 x10 x11 x14 q N71 hi71 hN71 hx3 hx4 hx8 hx9 hx10 hx14 hq hW
    · exact t_k_Mo_find_210 W S ih71 x1 x3 x4 x8 x9 x10 x11 x14 (1 : Int32) q N71 hi71 hN71 hx3 hx4 hx8 hx9 hx10 hx14 (z_w (show y_in (1 : Int32) (1) (1) from ⟨by decide, by decide⟩) (by decide) (by decide)) hq hW

set_option maxHeartbeats 4000000 in
set_option maxRecDepth 100000 in
theorem t_k_Mo_find_185 (W : Nat) (S : z_SS) (q : z_Sg) (hq : iM W S q) (hW : W + 0 ≤ 16) : z_ok (k_Mo_find_185 q) (fun o : Int64 × z_Sg => iM W S o.2) := by
  unfold k_Mo_find_185
  exact z_ok_s hq

set_option maxHeartbeats 4000000 in
set_option maxRecDepth 100000 in
theorem t_k_Mo_find_130 (W : Nat) (S : z_SS) (ih71 : Int64 × Int32 × Int32 × Int64 × Int32 × Int32 × Int32 × Int32 × Int64 × Int32 × z_Sg → Option (Int64 × z_Sg)) (x1 : Int64) (x3 : Int32) (x4 : Int32) (x7 : Int32) (x8 : Int32) (x9 : Int32) (x10 : Int32) (x11 : Int64) (t0 : Int32) (q : z_Sg) (N71 : Nat) (hi71 : ∀ (x1' : Int64) (x3' : Int32) (x4' : Int32) (x5' : Int64) (x7' : Int32) (x8' : Int32) (x9' : Int32) (x10' : Int32) (x11' : Int64) (x13' : Int32) (q' : z_Sg), y_in x3' (0) (2) → y_in x4' (0) (22) → y_in x7' (0) (1) → y_in x8' (0) (1) → y_in x9' (0) (1) → y_in x10' (0) (3) → y_in x13' (0) (1) → iM W S q' → (2 * x10'.toInt + 3 - x13'.toInt).toNat < N71 → z_ok (ih71 (x1', x3', x4', x5', x7', x8', x9', x10', x11', x13', q')) (fun o : Int64 × z_Sg => iM W S o.2)) (hN71 : (2 * x10.toInt + 3).toNat ≤ N71) (hx3 : y_in x3 (0) (2)) (hx4 : y_in x4 (0) (22)) (hx7 : y_in x7 (0) (1)) (hx8 : y_in x8 (0) (1)) (hx9 : y_in x9 (0) (1)) (hx10 : y_in x10 (0) (3)) (ht0 : y_in t0 (0) (1)) (hq : iM W S q) (hW : W + 0 ≤ 16) : z_ok (k_Mo_find_130 ih71 x1 x3 x4 x7 x8 x9 x10 x11 t0 q) (fun o : Int64 × z_Sg => iM W S o.2) := by
  unfold k_Mo_find_130
  refine z_ok_n (fun q22 eq22 => ?_)
  have hq22 : iM W S q22 := by rw [eq22]; exact (iM_sI1 hq (z_w hx4 (by decide) (by decide)))
  refine z_ok_i (fun c234078 => ?_) (fun c234078 => ?_)
  · exact z_ok_s hq22
  · refine z_ok_n (fun q24 eq24 => ?_)
    have hq24 : iM W S q24 := by rw [eq24]; exact (iM_sI1 hq22 (z_w (z_w (a' := 9) (b' := 31) (z_add hx4 (show y_in (9 : Int32) (9) (9) from ⟨by decide, by decide⟩) (by decide) (by decide)) (by decide) (by decide)) (by decide) (by decide)))
    refine z_ok_i (fun c234079 => ?_) (fun c234079 => ?_)
    · have z234080 : y_in t0 (0) (0) := z_w (z_eq1 c234079 (show y_in (0 : Int32) (0) (0) from ⟨by decide, by decide⟩)) (by decide) (by decide)
      exact t_k_Mo_find_189 W S ih71 x1 x3 x4 x7 x8 x9 x10 x11 t0 q24 N71 hi71 hN71 hx3 hx4 hx7 hx8 hx9 hx10 (z_w z234080 (by decide) (by decide)) hq24 hW
    · have z234081 : y_in t0 (1) (1) := z_w (z_ne1 c234079 ht0 (by decide)) (by decide) (by decide)
      refine z_ok_i (fun c234082 => ?_) (fun c234082 => ?_)
      · have z234083 : y_in x10 (2) (3) := z_w (z_lt2 c234082 (show y_in (1 : Int32) (1) (1) from ⟨by decide, by decide⟩) hx10) (by decide) (by decide)
        exact t_k_Mo_find_185 W S q24 hq24 hW
      · have z234084 : y_in x10 (0) (1) := z_w (z_nlt2 c234082 (show y_in (1 : Int32) (1) (1) from ⟨by decide, by decide⟩) hx10) (by decide) (by decide)
        refine z_ok_b (t_f_Mo_bits W S x11 (13 : Int32) (20 : Int32) q24 hq24 (by omega)) (fun r39 hr39 => ?_)
        refine z_ok_i (fun c234085 => ?_) (fun c234085 => ?_)
        · exact t_k_Mo_find_189 W S ih71 x1 x3 x4 x7 x8 x9 x10 x11 t0 q24 N71 hi71 hN71 hx3 hx4 hx7 hx8 hx9 (z_w z234084 (by decide) (by decide)) (z_w z234081 (by decide) (by decide)) hq24 hW
        · exact t_k_Mo_find_185 W S q24 hq24 hW

set_option maxHeartbeats 4000000 in
set_option maxRecDepth 100000 in
theorem t_k_Mo_find_129 (W : Nat) (S : z_SS) (ih71 : Int64 × Int32 × Int32 × Int64 × Int32 × Int32 × Int32 × Int32 × Int64 × Int32 × z_Sg → Option (Int64 × z_Sg)) (x1 : Int64) (x3 : Int32) (x4 : Int32) (x7 : Int32) (x8 : Int32) (x9 : Int32) (x10 : Int32) (x11 : Int64) (q : z_Sg) (N71 : Nat) (hi71 : ∀ (x1' : Int64) (x3' : Int32) (x4' : Int32) (x5' : Int64) (x7' : Int32) (x8' : Int32) (x9' : Int32) (x10' : Int32) (x11' : Int64) (x13' : Int32) (q' : z_Sg), y_in x3' (0) (2) → y_in x4' (0) (22) → y_in x7' (0) (1) → y_in x8' (0) (1) → y_in x9' (0) (1) → y_in x10' (0) (3) → y_in x13' (0) (1) → iM W S q' → (2 * x10'.toInt + 3 - x13'.toInt).toNat < N71 → z_ok (ih71 (x1', x3', x4', x5', x7', x8', x9', x10', x11', x13', q')) (fun o : Int64 × z_Sg => iM W S o.2)) (hN71 : (2 * x10.toInt + 3).toNat ≤ N71) (hx3 : y_in x3 (0) (2)) (hx4 : y_in x4 (0) (22)) (hx7 : y_in x7 (0) (1)) (hx8 : y_in x8 (0) (1)) (hx9 : y_in x9 (0) (1)) (hx10 : y_in x10 (0) (3)) (hq : iM W S q) (hW : W + 0 ≤ 16) : z_ok (k_Mo_find_129 ih71 x1 x3 x4 x7 x8 x9 x10 x11 q) (fun o : Int64 × z_Sg => iM W S o.2) := by
  unfold k_Mo_find_129
  exact t_k_Mo_find_130 W S ih71 x1 x3 x4 x7 x8 x9 x10 x11 (0 : Int32) q N71 hi71 hN71 hx3 hx4 hx7 hx8 hx9 hx10 (z_w (show y_in (0 : Int32) (0) (0) from ⟨by decide, by decide⟩) (by decide) (by decide)) hq hW

set_option maxHeartbeats 4000000 in
set_option maxRecDepth 100000 in
theorem t_kb_Mo_find_71 (W : Nat) (S : z_SS) (ih71 : Int64 × Int32 × Int32 × Int64 × Int32 × Int32 × Int32 × Int32 × Int64 × Int32 × z_Sg → Option (Int64 × z_Sg)) (x1 : Int64) (x3 : Int32) (x4 : Int32) (x5 : Int64) (x7 : Int32) (x8 : Int32) (x9 : Int32) (x10 : Int32) (x11 : Int64) (x13 : Int32) (q : z_Sg) (N71 : Nat) (hi71 : ∀ (x1' : Int64) (x3' : Int32) (x4' : Int32) (x5' : Int64) (x7' : Int32) (x8' : Int32) (x9' : Int32) (x10' : Int32) (x11' : Int64) (x13' : Int32) (q' : z_Sg), y_in x3' (0) (2) → y_in x4' (0) (22) → y_in x7' (0) (1) → y_in x8' (0) (1) → y_in x9' (0) (1) → y_in x10' (0) (3) → y_in x13' (0) (1) → iM W S q' → (2 * x10'.toInt + 3 - x13'.toInt).toNat < N71 → z_ok (ih71 (x1', x3', x4', x5', x7', x8', x9', x10', x11', x13', q')) (fun o : Int64 × z_Sg => iM W S o.2)) (hN71 : (2 * x10.toInt + 3 - x13.toInt).toNat ≤ N71) (hx3 : y_in x3 (0) (2)) (hx4 : y_in x4 (0) (22)) (hx7 : y_in x7 (0) (1)) (hx8 : y_in x8 (0) (1)) (hx9 : y_in x9 (0) (1)) (hx10 : y_in x10 (0) (3)) (hx13 : y_in x13 (0) (1)) (hq : iM W S q) (hW : W + 0 ≤ 16) : z_ok (kb_Mo_find_71 ih71 x1 x3 x4 x5 x7 x8 x9 x10 x11 x13 q) (fun o : Int64 × z_Sg => iM W S o.2) := by
  unfold kb_Mo_find_71
  refine z_ok_i (fun c234086 => ?_) (fun c234086 => ?_)
  · have z234087 : y_in x13 (0) (0) := z_w (z_eq1 c234086 (show y_in (0 : Int32) (0) (0) from ⟨by decide, by decide⟩)) (by decide) (by decide)
    refine z_ok_b (t_f_Mo_bits W S x1 ((12 : Int32) + ((9 : Int32) * x10)) ((20 : Int32) + ((9 : Int32) * x10)) q hq (by omega)) (fun r19 hr19 => ?_)
    refine z_ok_b (t_f_Mo_eight W S (x5 + ((8 : Int64) * r19)) q hq (by omega)) (fun r20 hr20 => ?_)
    refine z_ok_i (fun c234088 => ?_) (fun c234088 => ?_)
    · have z234089 : y_in x10 (0) (0) := z_w (z_le1 c234088 hx10 (show y_in (0 : Int32) (0) (0) from ⟨by decide, by decide⟩)) (by decide) (by decide)
      exact t_k_Mo_find_129 W S ih71 x1 x3 x4 x7 x8 x9 x10 r20 q N71 hi71 (by rw [c234086, Int32.toInt_zero] at hN71; omega) hx3 hx4 hx7 hx8 hx9 (z_w z234089 (by decide) (by decide)) hq hW
    · have z234090 : y_in x10 (1) (3) := z_w (z_nle1 c234088 hx10 (show y_in (0 : Int32) (0) (0) from ⟨by decide, by decide⟩)) (by decide) (by decide)
      refine z_ok_i (fun c234091 => ?_) (fun c234091 => ?_)
      · exact t_k_Mo_find_129 W S ih71 x1 x3 x4 x7 x8 x9 x10 r20 q N71 hi71 (by rw [c234086, Int32.toInt_zero] at hN71; omega) hx3 hx4 hx7 hx8 hx9 (z_w z234090 (by decide) (by decide)) hq hW
      · exact t_k_Mo_find_130 W S ih71 x1 x3 x4 x7 x8 x9 x10 r20 (1 : Int32) q N71 hi71 (by rw [c234086, Int32.toInt_zero] at hN71; omega) hx3 hx4 hx7 hx8 hx9 (z_w z234090 (by decide) (by decide)) (z_w (show y_in (1 : Int32) (1) (1) from ⟨by decide, by decide⟩) (by decide) (by decide)) hq hW
  · have z234092 : y_in x13 (1) (1) := z_w (z_ne1 c234086 hx13 (by decide)) (by decide) (by decide)
    refine z_ok_n (fun q8 eq8 => ?_)
    have hq8 : iM W S q8 := by rw [eq8]; exact (iM_sI1 hq (z_w (z_w (a' := 1) (b' := 23) (z_add hx4 (show y_in (1 : Int32) (1) (1) from ⟨by decide, by decide⟩) (by decide) (by decide)) (by decide) (by decide)) (by decide) (by decide)))
    refine z_ok_i (fun c234093 => ?_) (fun c234093 => ?_)
    · have z234094 : y_in x3 (1) (1) := z_w (z_eq1 c234093 (show y_in (1 : Int32) (1) (1) from ⟨by decide, by decide⟩)) (by decide) (by decide)
      refine z_ok_i (fun c234095 => ?_) (fun c234095 => ?_)
      · have z234096 : y_in x7 (0) (0) := z_w (z_eq1 c234095 (show y_in (0 : Int32) (0) (0) from ⟨by decide, by decide⟩)) (by decide) (by decide)
        exact t_k_Mo_find_336 W S q8 hq8 hW
      · have z234097 : y_in x7 (1) (1) := z_w (z_ne1 c234095 hx7 (by decide)) (by decide) (by decide)
        exact t_k_Mo_find_314 W S x1 x3 x5 x8 x9 x10 x11 q8 (z_w z234094 (by decide) (by decide)) hx8 hx9 hx10 hq8 hW
    · exact t_k_Mo_find_314 W S x1 x3 x5 x8 x9 x10 x11 q8 hx3 hx8 hx9 hx10 hq8 hW

set_option maxHeartbeats 4000000 in
set_option maxRecDepth 100000 in
theorem t_k_Mo_find_71 (W : Nat) (S : z_SS) (x1 : Int64) (x3 : Int32) (x4 : Int32) (x5 : Int64) (x7 : Int32) (x8 : Int32) (x9 : Int32) (x10 : Int32) (x11 : Int64) (x13 : Int32) (q : z_Sg) (hx3 : y_in x3 (0) (2)) (hx4 : y_in x4 (0) (22)) (hx7 : y_in x7 (1) (1)) (hx8 : y_in x8 (1) (1)) (hx9 : y_in x9 (1) (1)) (hx10 : y_in x10 (0) (3)) (hx11 : y_il x11 (0) (0)) (hx13 : y_in x13 (0) (0)) (hq : iM W S q) (hW : W + 0 ≤ 16) : z_ok (k_Mo_find_71 x1 x3 x4 x5 x7 x8 x9 x10 x11 x13 q) (fun o : Int64 × z_Sg => iM W S o.2) := by
  unfold k_Mo_find_71
  refine z_ok_l (fun a : Int64 × Int32 × Int32 × Int64 × Int32 × Int32 × Int32 × Int32 × Int64 × Int32 × z_Sg => y_in a.2.1 (0) (2) ∧ y_in a.2.2.1 (0) (22) ∧ y_in a.2.2.2.2.1 (0) (1) ∧ y_in a.2.2.2.2.2.1 (0) (1) ∧ y_in a.2.2.2.2.2.2.1 (0) (1) ∧ y_in a.2.2.2.2.2.2.2.1 (0) (3) ∧ y_in a.2.2.2.2.2.2.2.2.2.1 (0) (1) ∧ iM W S a.2.2.2.2.2.2.2.2.2.2) (fun a => (2 * a.2.2.2.2.2.2.2.1.toInt + 3 - a.2.2.2.2.2.2.2.2.2.1.toInt).toNat) ?_ (x1, x3, x4, x5, x7, x8, x9, x10, x11, x13, q) ⟨hx3, hx4, (z_w hx7 (by decide) (by decide)), (z_w hx8 (by decide) (by decide)), (z_w hx9 (by decide) (by decide)), hx10, (z_w hx13 (by decide) (by decide)), hq⟩ (by show (2 * x10.toInt + 3 - x13.toInt).toNat < 2000; have z1 := hx10.2; have z2 := hx13.1; omega)
  intro ih a ha hih
  exact t_kb_Mo_find_71 W S ih a.1 a.2.1 a.2.2.1 a.2.2.2.1 a.2.2.2.2.1 a.2.2.2.2.2.1 a.2.2.2.2.2.2.1 a.2.2.2.2.2.2.2.1 a.2.2.2.2.2.2.2.2.1 a.2.2.2.2.2.2.2.2.2.1 a.2.2.2.2.2.2.2.2.2.2 _ (fun x1' x3' x4' x5' x7' x8' x9' x10' x11' x13' q' hx3' hx4' hx7' hx8' hx9' hx10' hx13' hq' hm => hih (x1', x3', x4', x5', x7', x8', x9', x10', x11', x13', q') ⟨hx3', hx4', hx7', hx8', hx9', hx10', hx13', hq'⟩ hm) (Nat.le_refl _) ha.1 ha.2.1 ha.2.2.1 ha.2.2.2.1 ha.2.2.2.2.1 ha.2.2.2.2.2.1 ha.2.2.2.2.2.2.1 ha.2.2.2.2.2.2.2 hW

set_option maxHeartbeats 4000000 in
set_option maxRecDepth 100000 in
theorem t_k_Mo_find_34 (W : Nat) (S : z_SS) (x1 : Int64) (x3 : Int32) (t0 : Int32) (t1 : Int32) (q : z_Sg) (hx3 : y_in x3 (0) (2)) (ht0 : y_in t0 (0) (6)) (ht1 : y_in t1 (0) (16)) (hq : iM W S q) (hW : W + 0 ≤ 16) : z_ok (k_Mo_find_34 x1 x3 t0 t1 q) (fun o : Int64 × z_Sg => iM W S o.2) := by
  unfold k_Mo_find_34
  refine z_ok_n (fun n4 en4 => ?_)
  have hn4 : y_in n4 (0) (22) := z_e en4 (z_w (a' := 0) (b' := 22) (z_add ht0 ht1 (by decide) (by decide)) (by decide) (by decide))
  refine z_ok_b (t_f_Mo_bits W S (z_gL q 1) (12 : Int32) (51 : Int32) q hq (by omega)) (fun r5 hr5 => ?_)
  refine z_ok_n (fun n6 en6 => ?_)
  exact t_k_Mo_find_71 W S x1 x3 n4 n6 (1 : Int32) (1 : Int32) (1 : Int32) (3 : Int32) (0 : Int64) (0 : Int32) q hx3 hn4 (show y_in (1 : Int32) (1) (1) from ⟨by decide, by decide⟩) (show y_in (1 : Int32) (1) (1) from ⟨by decide, by decide⟩) (show y_in (1 : Int32) (1) (1) from ⟨by decide, by decide⟩) (z_w (show y_in (3 : Int32) (3) (3) from ⟨by decide, by decide⟩) (by decide) (by decide)) (show y_il (0 : Int64) (0) (0) from ⟨by decide, by decide⟩) (show y_in (0 : Int32) (0) (0) from ⟨by decide, by decide⟩) hq hW

set_option maxHeartbeats 4000000 in
set_option maxRecDepth 100000 in
theorem t_k_Mo_find_22 (W : Nat) (S : z_SS) (x1 : Int64) (x3 : Int32) (t0 : Int32) (t1 : Int32) (q : z_Sg) (hx3 : y_in x3 (0) (2)) (ht0 : y_in t0 (0) (2)) (ht1 : y_in t1 (0) (4)) (hq : iM W S q) (hW : W + 0 ≤ 16) : z_ok (k_Mo_find_22 x1 x3 t0 t1 q) (fun o : Int64 × z_Sg => iM W S o.2) := by
  unfold k_Mo_find_22
  refine z_ok_i (fun c234098 => ?_) (fun c234098 => ?_)
  · have z234099 : y_in x3 (2) (2) := z_w (z_eq1 c234098 (show y_in (2 : Int32) (2) (2) from ⟨by decide, by decide⟩)) (by decide) (by decide)
    exact t_k_Mo_find_34 W S x1 x3 (t0 + t1) (16 : Int32) q (z_w z234099 (by decide) (by decide)) (z_w (a' := 0) (b' := 6) (z_add ht0 ht1 (by decide) (by decide)) (by decide) (by decide)) (z_w (show y_in (16 : Int32) (16) (16) from ⟨by decide, by decide⟩) (by decide) (by decide)) hq hW
  · have z234100 : y_in x3 (0) (1) := z_w (z_ne2 c234098 hx3 (by decide)) (by decide) (by decide)
    exact t_k_Mo_find_34 W S x1 x3 (t0 + t1) (0 : Int32) q (z_w z234100 (by decide) (by decide)) (z_w (a' := 0) (b' := 6) (z_add ht0 ht1 (by decide) (by decide)) (by decide) (by decide)) (z_w (show y_in (0 : Int32) (0) (0) from ⟨by decide, by decide⟩) (by decide) (by decide)) hq hW

set_option maxHeartbeats 4000000 in
set_option maxRecDepth 100000 in
theorem t_k_Mo_find_10 (W : Nat) (S : z_SS) (x1 : Int64) (x3 : Int32) (t0 : Int32) (q : z_Sg) (hx3 : y_in x3 (0) (2)) (ht0 : y_in t0 (0) (2)) (hq : iM W S q) (hW : W + 0 ≤ 16) : z_ok (k_Mo_find_10 x1 x3 t0 q) (fun o : Int64 × z_Sg => iM W S o.2) := by
  unfold k_Mo_find_10
  refine z_ok_i (fun c234101 => ?_) (fun c234101 => ?_)
  · have z234102 : y_in (z_gI q 2) (0) (0) := z_w (z_eq1 c234101 (show y_in (0 : Int32) (0) (0) from ⟨by decide, by decide⟩)) (by decide) (by decide)
    exact t_k_Mo_find_22 W S x1 x3 t0 (0 : Int32) q hx3 ht0 (z_w (show y_in (0 : Int32) (0) (0) from ⟨by decide, by decide⟩) (by decide) (by decide)) hq hW
  · have z234103 : y_in (z_gI q 2) (1) (1) := z_w (z_ne1 c234101 (iM_f2 hq) (by decide)) (by decide) (by decide)
    exact t_k_Mo_find_22 W S x1 x3 t0 (4 : Int32) q hx3 ht0 (z_w (show y_in (4 : Int32) (4) (4) from ⟨by decide, by decide⟩) (by decide) (by decide)) hq hW

set_option maxHeartbeats 4000000 in
set_option maxRecDepth 100000 in
theorem t_f_Mo_find (W : Nat) (S : z_SS) (x1 : Int64) (x3 : Int32) (q : z_Sg) (hx3 : y_in x3 (0) (2)) (hq : iM W S q) (hW : W + 0 ≤ 16) : z_ok (f_Mo_find x1 x3 q) (fun o : Int64 × z_Sg => iM W S o.2) := by
  unfold f_Mo_find
  refine z_ok_i (fun c234104 => ?_) (fun c234104 => ?_)
  · have z234105 : y_in x3 (1) (1) := z_w (z_eq1 c234104 (show y_in (1 : Int32) (1) (1) from ⟨by decide, by decide⟩)) (by decide) (by decide)
    exact t_k_Mo_find_10 W S x1 x3 (2 : Int32) q (z_w z234105 (by decide) (by decide)) (z_w (show y_in (2 : Int32) (2) (2) from ⟨by decide, by decide⟩) (by decide) (by decide)) hq hW
  · exact t_k_Mo_find_10 W S x1 x3 (0 : Int32) q hx3 (z_w (show y_in (0 : Int32) (0) (0) from ⟨by decide, by decide⟩) (by decide) (by decide)) hq hW

set_option maxHeartbeats 4000000 in
set_option maxRecDepth 100000 in
theorem t_k_Mo_refuse_13 (W : Nat) (S : z_SS) (q : z_Sg) (hq : iM W S q) (hW : W + 0 ≤ 16) : z_ok (k_Mo_refuse_13 q) (fun o : z_Sg => iM W S o) := by
  unfold k_Mo_refuse_13
  exact z_ok_s hq

set_option maxHeartbeats 4000000 in
set_option maxRecDepth 100000 in
theorem t_f_Mo_refuse (W : Nat) (S : z_SS) (x1 : Int32) (q : z_Sg) (hx1 : y_in x1 (0) (14)) (hq : iM W S q) (hW : W + 0 ≤ 16) : z_ok (f_Mo_refuse x1 q) (fun o : z_Sg => iM W S o) := by
  unfold f_Mo_refuse
  refine z_ok_i (fun c234106 => ?_) (fun c234106 => ?_)
  · have z234107 : y_in (z_gI q 4) (-1) (-1) := z_w (z_eq1 c234106 (show y_in (-1 : Int32) (-1) (-1) from ⟨by decide, by decide⟩)) (by decide) (by decide)
    refine z_ok_n (fun q2 eq2 => ?_)
    have hq2 : iM W S q2 := by rw [eq2]; exact (iM_sI4 hq hx1)
    exact t_k_Mo_refuse_13 W S q2 hq2 hW
  · have z234108 : y_in (z_gI q 4) (0) (14) := z_w (z_ne1 c234106 (iM_f4 hq) (by decide)) (by decide) (by decide)
    exact t_k_Mo_refuse_13 W S q hq hW






theorem z_ok_and {α : Type} {x : Option α} {P Q : α → Prop} (h1 : z_ok x P) (h2 : z_ok x Q) : z_ok x (fun a => P a ∧ Q a) := by
  obtain ⟨a, e, ha⟩ := h1
  obtain ⟨b, e2, hb⟩ := h2
  rw [e] at e2
  cases e2
  exact ⟨a, e, ha, hb⟩
/-- refuse: then it is refused -/
theorem t_refuse (W : Nat) (S : z_SS) (v : Int32) (q : z_Sg) (hv : y_in v 0 14) (hq : iM W S q) : z_ok (f_Mo_refuse v q) (fun o : z_Sg => iM W S o ∧ ¬ z_gI o 4 = -1) := by
  unfold f_Mo_refuse k_Mo_refuse_13
  refine z_ok_i (fun c => ?_) (fun c => z_ok_s ⟨hq, c⟩)
  refine z_ok_n (fun q2 e2 => z_ok_s ?_)
  rw [e2]
  refine ⟨iM_sI4 hq hv, fun (e : v = -1) => ?_⟩
  have := hv.1
  rw [e] at this
  exact absurd this (by decide)
theorem t_refuseL (W : Nat) (S : z_SS) (q : z_Sg) (i : Nat) (u : Int64) (hq : iM W S q) : z_ok (f_Mo_refuse 14 (z_sM q 3 i u)) (fun o : z_Sg => iM W S o ∧ ¬ z_gI o 4 = -1) := by
  unfold f_Mo_refuse k_Mo_refuse_13
  refine z_ok_i (fun c => ?_) (fun c => z_ok_s ⟨iM_sM3 hq ⟨Or.inr (Or.inl c), (iM_k hq).2⟩, c⟩)
  refine z_ok_n (fun q2 e2 => z_ok_s ?_)
  rw [e2]
  exact ⟨iM_r4 hq ⟨by decide, by decide⟩, fun (e : (14 : Int32) = -1) => absurd e (by decide)⟩
set_option maxHeartbeats 4000000 in
set_option maxRecDepth 100000 in
theorem t_f_Mo_lookUp (W : Nat) (S : z_SS) (x1 : Int64) (x3 : Int32) (x4 : Int32) (x5 : Int32) (q : z_Sg) (hx3 : y_in x3 (1) (8)) (hx4 : y_in x4 (0) (2)) (hx5 : y_in x5 (0) (1)) (hq : iM W S q) (hW : W + 0 ≤ 16) : z_ok (f_Mo_lookUp x1 x3 x4 x5 q) (fun o : z_Sg => (iM W S o ∧ (z_gI o 4 = -1 → ∀ j : Nat, (j : Int) < x3.toInt → 0 ≤ (z_gM o 3 j).toInt)) ∧ (z_gI o 4 = -1 → z_gI q 4 = -1)) := by
  unfold f_Mo_lookUp k_Mo_lookUp_3
  refine z_ok_l (fun a : Int64 × Int32 × Int32 × Int32 × Int32 × z_Sg => a.2.1 = x3 ∧ a.2.2.1 = x4 ∧ a.2.2.2.1 = x5 ∧ y_in a.2.2.2.2.1 0 x3.toInt ∧ iM W S a.2.2.2.2.2 ∧ (z_gI a.2.2.2.2.2 4 = -1 → ∀ j : Nat, (j : Int) < a.2.2.2.2.1.toInt → 0 ≤ (z_gM a.2.2.2.2.2 3 j).toInt) ∧ (z_gI a.2.2.2.2.2 4 = -1 → z_gI q 4 = -1)) (fun a => (8 - a.2.2.2.2.1.toInt).toNat) ?_ (x1, x3, x4, x5, 0, q) ⟨rfl, rfl, rfl, ⟨Int.le_refl 0, by show (0 : Int) ≤ x3.toInt; have := hx3.1; omega⟩, hq, fun _ j (hj : (j : Int) < 0) => by omega, fun h => h⟩ (by show (8 - (0 : Int)).toNat < 2000; decide)
  rintro ih ⟨a1, a2, a3, a4, a5, a6⟩ ⟨e2, e3, e4, h5, h6, h7, h8⟩ hih
  dsimp only at e2 e3 e4 h5 h6 h7 h8 hih ⊢
  subst e2
  subst e3
  subst e4
  have h3a := hx3.2
  unfold kb_Mo_lookUp_3
  refine z_ok_i (fun c1 => ?_) (fun c1 => ?_)
  · unfold k_Mo_lookUp_107
    exact z_ok_s ⟨⟨h6, fun hr j hj => h7 hr j (Int.lt_of_lt_of_le hj (Int32.le_iff_toInt_le.mp c1))⟩, h8⟩
  · have hlt : ¬ a2.toInt ≤ a5.toInt := fun h => c1 (Int32.le_iff_toInt_le.mpr h)
    have h50 := h5.1
    have h57 : y_in a5 0 7 := ⟨h50, by omega⟩
    have en : (a5 + 1).toInt = a5.toInt + 1 := by
      rw [Int32.toInt_add, show (1 : Int32).toInt = 1 from rfl]
      exact z_bmod (by omega) (by omega)
    have go : ∀ q' : z_Sg, iM W S q' → (z_gI q' 4 = -1 → ∀ j : Nat, (j : Int) < a5.toInt + 1 → 0 ≤ (z_gM q' 3 j).toInt) → (z_gI q' 4 = -1 → z_gI q 4 = -1) → z_ok (k_Mo_lookUp_101 ih a1 a2 a3 a4 a5 q') (fun o : z_Sg => (iM W S o ∧ (z_gI o 4 = -1 → ∀ j : Nat, (j : Int) < a2.toInt → 0 ≤ (z_gM o 3 j).toInt)) ∧ (z_gI o 4 = -1 → z_gI q 4 = -1)) := by
      intro q' g1 g2 g3
      unfold k_Mo_lookUp_101
      refine z_ok_n (fun n13 e13 => ?_)
      subst e13
      refine hih (a1, a2, a3, a4, a5 + 1, q') ⟨rfl, rfl, rfl, ⟨by rw [en]; omega, by rw [en]; omega⟩, g1, by rw [en]; exact g2, g3⟩ ?_
      show (8 - (a5 + 1).toInt).toNat < (8 - a5.toInt).toNat
      rw [en]
      omega
    refine z_ok_i (fun c2 => ?_) (fun c2 => ?_)
    · refine z_ok_b (t_f_Mo_isWrong W S _ a6 h6 hW) (fun r3 hr3 => ?_)
      refine z_ok_i (fun c3 => ?_) (fun c3 => ?_)
      · have hk : z_kS (a5, false, fun _ _ _ => True) a6 := ⟨Or.inr (Or.inr (fun j hj => h7 c2 j hj)), trivial⟩
        refine z_ok_b (z_ok_and (t_f_Mo_find W S _ a3 a6 hx4 h6 hW) (t_f_Mo_find W (a5, false, fun _ _ _ => True) _ a3 a6 hx4 (iM_S h6 hk) hW)) (fun r5 hr5 => ?_)
        refine z_ok_g (z_nbad h57 (by decide)) ?_
        refine z_ok_n (fun q7 eq7 => ?_)
        refine z_ok_g (z_nbad h57 (by decide)) ?_
        have hv : z_gM q7 3 a5.toNatClampNeg = r5.1 := by rw [eq7]; exact pk_uLs
        rw [hv]
        refine z_ok_i (fun c4 => ?_) (fun c4 => ?_)
        · rw [eq7]
          refine z_ok_b (t_refuseL W S r5.2 a5.toNatClampNeg r5.1 hr5.1) (fun r10 hr10 => ?_)
          refine z_ok_n (fun q11 e11 => ?_)
          refine z_ok_n (fun q12 e12 => ?_)
          have h11 : iM W S q11 := by rw [e11]; exact iM_sL hr10.1
          have h12 : iM W S q12 := by rw [e12]; exact iM_sI0 h11 (iM_f1 h11)
          have r12 : ¬ z_gI q12 4 = -1 := by rw [e12, e11]; exact hr10.2
          exact go q12 h12 (fun hr => absurd hr r12) (fun hr => absurd hr r12)
        · have hge : 0 ≤ r5.1.toInt := by
            have : ¬ r5.1.toInt < (0 : Int64).toInt := fun h => c4 (Int64.lt_iff_toInt_lt.mpr h)
            rw [Int64.toInt_zero] at this
            omega
          have hgt : ∀ n : Nat, (n : Int) < a5.toInt + 1 → (∀ j : Nat, (j : Int) < a5.toInt → 0 ≤ (z_gM r5.2 3 j).toInt) → 0 ≤ (z_gM q7 3 n).toInt := by
            intro n hn hl
            rw [eq7]
            show 0 ≤ (vp_updL (z_gM r5.2 3) a5.toNatClampNeg r5.1 n).toInt
            unfold vp_updL
            split
            · exact hge
            · rename_i hne
              refine hl n ?_
              have : a5.toNatClampNeg = a5.toInt.toNat := rfl
              omega
          have k1 := (iM_k hr5.1)
          have k2 := (iM_k hr5.2).1
          have kS : z_kS S q7 := by
            refine ⟨?_, by rw [eq7]; exact k1.2⟩
            rcases k1.1 with h | h | h
            · exact Or.inl ⟨h.1, by rw [eq7]; exact h.2⟩
            · exact Or.inr (Or.inl (by rw [eq7]; exact h))
            · refine Or.inr (Or.inr (fun j hj => ?_))
              rw [eq7]
              show 0 ≤ (vp_updL (z_gM r5.2 3) a5.toNatClampNeg r5.1 j).toInt
              unfold vp_updL
              split
              · exact hge
              · exact h j hj
          have h7q : iM W S q7 := by rw [eq7]; rw [eq7] at kS; exact iM_sM3 hr5.1 kS
          refine go q7 h7q (fun hr j hj => ?_) (fun hr => h8 c2)
          rcases k2 with h | h | h
          · exact absurd (show false = true from h.1) (by decide)
          · exact absurd (show z_gI r5.2 4 = -1 by rw [eq7] at hr; exact hr) h
          · exact hgt j hj h
      · have fin : ∀ v : Int32, y_in v 0 14 → z_ok (k_Mo_lookUp_41 v a6) (fun o : z_Sg => (iM W S o ∧ (z_gI o 4 = -1 → ∀ j : Nat, (j : Int) < a2.toInt → 0 ≤ (z_gM o 3 j).toInt)) ∧ (z_gI o 4 = -1 → z_gI q 4 = -1)) := by
          intro v hv
          unfold k_Mo_lookUp_41
          exact z_ok_b (t_refuse W S v a6 hv h6) (fun r hr => z_ok_s ⟨⟨hr.1, fun h => absurd h hr.2⟩, fun h => absurd h hr.2⟩)
        exact z_ok_i (fun _ => fin 13 ⟨by decide, by decide⟩) (fun _ => fin 12 ⟨by decide, by decide⟩)
    · unfold k_Mo_lookUp_107
      exact z_ok_s ⟨⟨h6, fun h => absurd h c2⟩, h8⟩

set_option maxHeartbeats 4000000 in
set_option maxRecDepth 100000 in
theorem t_k_Mo_fetch_23 (W : Nat) (S : z_SS) (q : z_Sg) (hq : iM W S q) (hW : W + 0 ≤ 16) : z_ok (k_Mo_fetch_23 q) (fun o : Int32 × z_Sg => iM W z_Z o.2 ∧ y_in o.1 (0) (255)) := by
  unfold k_Mo_fetch_23
  refine z_ok_b (t_f_Mo_lookUp W S ((z_gL q 0) + (z_gI q 6).toInt64) (1 : Int32) (2 : Int32) (0 : Int32) q (z_w (show y_in (1 : Int32) (1) (1) from ⟨by decide, by decide⟩) (by decide) (by decide)) (z_w (show y_in (2 : Int32) (2) (2) from ⟨by decide, by decide⟩) (by decide) (by decide)) (z_w (show y_in (0 : Int32) (0) (0) from ⟨by decide, by decide⟩) (by decide) (by decide)) hq (by omega)) (fun r2 hr2 => ?_)
  refine z_ok_i (fun c234109 => ?_) (fun c234109 => ?_)
  · have z234110 : y_in (z_gI r2 4) (-1) (-1) := z_w (z_eq1 c234109 (show y_in (-1 : Int32) (-1) (-1) from ⟨by decide, by decide⟩)) (by decide) (by decide)
    refine z_ok_n (fun q4 eq4 => ?_)
    have hq4 : iM W z_Z q4 := by rw [eq4]; exact (iM_sI6 hr2.1.1)
    refine z_ok_g (z_nbad (show y_in (0 : Int32) (0) (0) from ⟨by decide, by decide⟩) (by decide)) ?_
    refine z_ok_b (t_f_Mo_byteAt W z_Z (z_gM q4 3 (0 : Int32).toNatClampNeg) q4 hq4 (by omega)) (fun r6 hr6 => ?_)
    exact z_ok_s ⟨hq4, hr6⟩
  · have z234111 : y_in (z_gI r2 4) (0) (14) := z_w (z_ne1 c234109 (iM_f4 hr2.1.1) (by decide)) (by decide) (by decide)
    exact z_ok_s ⟨(iM_0 hr2.1.1), (z_w (show y_in (0 : Int32) (0) (0) from ⟨by decide, by decide⟩) (by decide) (by decide))⟩

set_option maxHeartbeats 4000000 in
set_option maxRecDepth 100000 in
theorem t_f_Mo_fetch (W : Nat) (S : z_SS) (q : z_Sg) (hq : iM W S q) (hW : W + 0 ≤ 16) : z_ok (f_Mo_fetch q) (fun o : Int32 × z_Sg => iM W z_Z o.2 ∧ y_in o.1 (0) (255)) := by
  unfold f_Mo_fetch
  refine z_ok_i (fun c234112 => ?_) (fun c234112 => ?_)
  · have z234113 : y_in (z_gI q 4) (-1) (-1) := z_w (z_eq1 c234112 (show y_in (-1 : Int32) (-1) (-1) from ⟨by decide, by decide⟩)) (by decide) (by decide)
    refine z_ok_i (fun c234114 => ?_) (fun c234114 => ?_)
    · have z234115 : y_in (z_gI q 6) (15) (15) := z_w (z_eq1 c234114 (show y_in (15 : Int32) (15) (15) from ⟨by decide, by decide⟩)) (by decide) (by decide)
      refine z_ok_b (t_f_Mo_refuse W S (13 : Int32) q (z_w (show y_in (13 : Int32) (13) (13) from ⟨by decide, by decide⟩) (by decide) (by decide)) hq (by omega)) (fun r8 hr8 => ?_)
      exact t_k_Mo_fetch_23 W S r8 hr8 hW
    · exact t_k_Mo_fetch_23 W S q hq hW
  · have z234116 : y_in (z_gI q 4) (0) (14) := z_w (z_ne1 c234112 (iM_f4 hq) (by decide)) (by decide) (by decide)
    exact t_k_Mo_fetch_23 W S q hq hW

set_option maxHeartbeats 4000000 in
set_option maxRecDepth 100000 in
theorem t_k_Mo_open_167 (W : Nat) (S : z_SS) (t1 : Int32) (q : z_Sg) (ht1 : y_in t1 (0) (255)) (hq : iM W z_Z q) (hW : W + 0 ≤ 16) : z_ok (k_Mo_open_167 t1 q) (fun o : z_Sg => iM W z_Z o) := by
  unfold k_Mo_open_167
  refine z_ok_n (fun q11 eq11 => ?_)
  have hq11 : iM W z_Z q11 := by rw [eq11]; exact (iM_sI15 hq ht1)
  exact z_ok_s hq11

set_option maxHeartbeats 4000000 in
set_option maxRecDepth 100000 in
theorem t_k_Mo_open_148 (W : Nat) (S : z_SS) (x1 : Int32) (t1 : Int32) (q : z_Sg) (hx1 : y_in x1 (0) (255)) (ht1 : y_in t1 (0) (1)) (hq : iM W z_Z q) (hW : W + 0 ≤ 16) : z_ok (k_Mo_open_148 x1 t1 q) (fun o : z_Sg => iM W z_Z o) := by
  unfold k_Mo_open_148
  refine z_ok_G (z_bi ht1) ?_
  refine z_ok_n (fun q9 eq9 => ?_)
  have hq9 : iM W z_Z q9 := by rw [eq9]; exact (iM_sI18 hq ht1)
  refine z_ok_i (fun c234117 => ?_) (fun c234117 => ?_)
  · have z234118 : y_in (z_gI q9 18) (0) (0) := z_w (z_eq1 c234117 (show y_in (0 : Int32) (0) (0) from ⟨by decide, by decide⟩)) (by decide) (by decide)
    exact t_k_Mo_open_167 W S x1 q9 hx1 hq9 hW
  · have z234119 : y_in (z_gI q9 18) (1) (1) := z_w (z_ne1 c234117 (iM_f18 hq9) (by decide)) (by decide) (by decide)
    refine z_ok_b (t_f_Mo_fetch W z_Z q9 hq9 (by omega)) (fun r12 hr12 => ?_)
    exact t_k_Mo_open_167 W S r12.1 r12.2 hr12.2 hr12.1 hW

set_option maxHeartbeats 4000000 in
set_option maxRecDepth 100000 in
theorem t_k_Mo_open_147 (W : Nat) (S : z_SS) (x1 : Int32) (q : z_Sg) (hx1 : y_in x1 (0) (255)) (hq : iM W z_Z q) (hW : W + 0 ≤ 16) : z_ok (k_Mo_open_147 x1 q) (fun o : z_Sg => iM W z_Z o) := by
  unfold k_Mo_open_147
  exact t_k_Mo_open_148 W S x1 (0 : Int32) q hx1 (z_w (show y_in (0 : Int32) (0) (0) from ⟨by decide, by decide⟩) (by decide) (by decide)) hq hW

set_option maxHeartbeats 4000000 in
set_option maxRecDepth 100000 in
theorem t_k_Mo_open_128 (W : Nat) (S : z_SS) (x1 : Int32) (q : z_Sg) (hx1 : y_in x1 (0) (255)) (hq : iM W z_Z q) (hW : W + 0 ≤ 16) : z_ok (k_Mo_open_128 x1 q) (fun o : z_Sg => iM W z_Z o) := by
  unfold k_Mo_open_128
  refine z_ok_i (fun c234120 => ?_) (fun c234120 => ?_)
  · have z234121 : y_in x1 (15) (15) := z_w (z_eq1 c234120 (show y_in (15 : Int32) (15) (15) from ⟨by decide, by decide⟩)) (by decide) (by decide)
    refine z_ok_i (fun c234122 => ?_) (fun c234122 => ?_)
    · have z234123 : y_in (z_gI q 4) (-1) (-1) := z_w (z_eq1 c234122 (show y_in (-1 : Int32) (-1) (-1) from ⟨by decide, by decide⟩)) (by decide) (by decide)
      exact t_k_Mo_open_148 W S x1 (1 : Int32) q (z_w z234121 (by decide) (by decide)) (z_w (show y_in (1 : Int32) (1) (1) from ⟨by decide, by decide⟩) (by decide) (by decide)) hq hW
    · have z234124 : y_in (z_gI q 4) (0) (14) := z_w (z_ne1 c234122 (iM_f4 hq) (by decide)) (by decide) (by decide)
      exact t_k_Mo_open_147 W S x1 q (z_w z234121 (by decide) (by decide)) hq hW
  · exact t_k_Mo_open_147 W S x1 q hx1 hq hW

/-- the prefixes: not refused, so many bytes fetched -/
def z_oL (N : Nat) (q : z_Sg) : Prop := z_gI q 4 = -1 ∧ y_in (z_gI q 6) 1 15 ∧ (17 - (z_gI q 6).toInt).toNat ≤ N
theorem t_fetch23 (W : Nat) (S : z_SS) (q : z_Sg) (hq : iM W S q) (hW : W + 0 ≤ 16) : z_ok (k_Mo_fetch_23 q) (fun o : Int32 × z_Sg => (iM W z_Z o.2 ∧ y_in o.1 0 255) ∧ (z_gI o.2 4 = -1 → z_gI q 4 = -1 ∧ z_gI o.2 6 = z_gI q 6 + 1)) := by
  unfold k_Mo_fetch_23
  have hS : iM W ((0 : Int32), true, fun a _ _ => a = z_gI q 6) q := iM_S hq ⟨(z_k0 q).1, rfl⟩
  refine z_ok_b (t_f_Mo_lookUp W ((0 : Int32), true, fun a _ _ => a = z_gI q 6) _ 1 2 0 q (z_w (show y_in (1 : Int32) (1) (1) from ⟨by decide, by decide⟩) (by decide) (by decide)) (z_w (show y_in (2 : Int32) (2) (2) from ⟨by decide, by decide⟩) (by decide) (by decide)) (z_w (show y_in (0 : Int32) (0) (0) from ⟨by decide, by decide⟩) (by decide) (by decide)) hS hW) (fun r2 hr2 => ?_)
  have e6 : z_gI r2 6 = z_gI q 6 := (iM_k hr2.1.1).2
  refine z_ok_i (fun c => ?_) (fun c => z_ok_s ⟨⟨iM_0 hr2.1.1, (show y_in (0 : Int32) 0 255 from ⟨by decide, by decide⟩)⟩, fun h => absurd h c⟩)
  refine z_ok_n (fun q4 e4 => ?_)
  have h4 : iM W z_Z q4 := by rw [e4]; exact iM_sI6 hr2.1.1
  refine z_ok_g (z_nbad (show y_in (0 : Int32) (0) (0) from ⟨by decide, by decide⟩) (by decide)) ?_
  refine z_ok_b (t_f_Mo_byteAt W z_Z _ q4 h4 hW) (fun r6 hr6 => ?_)
  refine z_ok_s ⟨⟨h4, hr6⟩, fun _ => ⟨hr2.2 c, ?_⟩⟩
  rw [e4]
  show z_gI r2 6 + 1 = _
  rw [e6]
theorem t_fetch (W : Nat) (S : z_SS) (q : z_Sg) (hq : iM W S q) (hW : W + 0 ≤ 16) : z_ok (f_Mo_fetch q) (fun o : Int32 × z_Sg => (iM W z_Z o.2 ∧ y_in o.1 0 255) ∧ (z_gI o.2 4 = -1 → z_gI q 4 = -1 ∧ ¬ z_gI q 6 = 15 ∧ z_gI o.2 6 = z_gI q 6 + 1)) := by
  unfold f_Mo_fetch
  refine z_ok_i (fun c1 => ?_) (fun c1 => ?_)
  · refine z_ok_i (fun c2 => ?_) (fun c2 => ?_)
    · refine z_ok_b (t_refuse W S 13 q ⟨by decide, by decide⟩ hq) (fun r8 hr8 => ?_)
      exact z_ok_w (t_fetch23 W S r8 hr8.1 hW) (fun o ho => ⟨ho.1, fun h => absurd (ho.2 h).1 hr8.2⟩)
    · exact z_ok_w (t_fetch23 W S q hq hW) (fun o ho => ⟨ho.1, fun h => ⟨c1, c2, (ho.2 h).2⟩⟩)
  · exact z_ok_w (t_fetch23 W S q hq hW) (fun o ho => ⟨ho.1, fun h => absurd (ho.2 h).1 c1⟩)
theorem t_k_Mo_open_120 (W : Nat) (S : z_SS) (ih25 : Int32 × z_Sg → Option z_Sg) (q : z_Sg) (N25 : Nat) (hi25 : ∀ (x1' : Int32) (q' : z_Sg), y_in x1' 0 255 → iM W z_Z q' → (z_gI q' 4 = -1 → y_in (z_gI q' 6) 1 15) → (z_gI q' 4 = -1 → (17 - (z_gI q' 6).toInt).toNat < N25) → z_ok (ih25 (x1', q')) (fun o : z_Sg => iM W z_Z o)) (hq : iM W z_Z q) (hL : z_oL N25 q) (hW : W + 0 ≤ 16) : z_ok (k_Mo_open_120 ih25 q) (fun o : z_Sg => iM W z_Z o) := by
  unfold k_Mo_open_120
  refine z_ok_b (t_fetch W z_Z q hq hW) (fun r21 hr => ?_)
  obtain ⟨hl1, hl2, hl3⟩ := hL
  have h1 := hl2.1
  have h2 := hl2.2
  have key : z_gI r21.2 4 = -1 → (z_gI r21.2 6).toInt = (z_gI q 6).toInt + 1 ∧ (z_gI q 6).toInt ≤ 14 := by
    intro h
    obtain ⟨-, g2, g3⟩ := hr.2 h
    have g4 : ¬ (z_gI q 6).toInt = 15 := fun e => g2 (Int32.toInt_inj.mp (by rw [e]; rfl))
    refine ⟨?_, by omega⟩
    rw [g3, Int32.toInt_add, show (1 : Int32).toInt = 1 from rfl]
    exact z_bmod (by omega) (by omega)
  exact hi25 r21.1 r21.2 hr.1.2 hr.1.1 (fun h => by have := key h; exact ⟨by omega, by omega⟩) (fun h => by have := key h; omega)

theorem t_k_Mo_open_105 (W : Nat) (S : z_SS) (ih25 : Int32 × z_Sg → Option z_Sg) (x1 : Int32) (t1 : Int32) (q : z_Sg) (N25 : Nat) (hi25 : ∀ (x1' : Int32) (q' : z_Sg), y_in x1' 0 255 → iM W z_Z q' → (z_gI q' 4 = -1 → y_in (z_gI q' 6) 1 15) → (z_gI q' 4 = -1 → (17 - (z_gI q' 6).toInt).toNat < N25) → z_ok (ih25 (x1', q')) (fun o : z_Sg => iM W z_Z o)) (hx1 : y_in x1 (0) (243)) (ht1 : y_in t1 (0) (1)) (hq : iM W z_Z q) (hL : z_oL N25 q) (hW : W + 0 ≤ 16) : z_ok (k_Mo_open_105 ih25 x1 t1 q) (fun o : z_Sg => iM W z_Z o) := by
  unfold k_Mo_open_105
  refine z_ok_G (z_bi ht1) ?_
  refine z_ok_n (fun q19 e19 => ?_)
  have h19 : iM W z_Z q19 := by rw [e19]; exact iM_sI16 hq ht1
  have l19 : z_oL N25 q19 := by rw [e19]; exact hL
  refine z_ok_i (fun c => t_k_Mo_open_120 W S ih25 q19 N25 hi25 h19 l19 hW) (fun c => ?_)
  refine z_ok_n (fun q22 e22 => ?_)
  exact t_k_Mo_open_120 W S ih25 q22 N25 hi25 (by rw [e22]; exact iM_sI11 h19 (z_w hx1 (by decide) (by decide))) (by rw [e22]; exact l19) hW

theorem t_k_Mo_open_100 (W : Nat) (S : z_SS) (ih25 : Int32 × z_Sg → Option z_Sg) (x1 : Int32) (q : z_Sg) (N25 : Nat) (hi25 : ∀ (x1' : Int32) (q' : z_Sg), y_in x1' 0 255 → iM W z_Z q' → (z_gI q' 4 = -1 → y_in (z_gI q' 6) 1 15) → (z_gI q' 4 = -1 → (17 - (z_gI q' 6).toInt).toNat < N25) → z_ok (ih25 (x1', q')) (fun o : z_Sg => iM W z_Z o)) (hx1 : y_in x1 (0) (243)) (hq : iM W z_Z q) (hL : z_oL N25 q) (hW : W + 0 ≤ 16) : z_ok (k_Mo_open_100 ih25 x1 q) (fun o : z_Sg => iM W z_Z o) := by
  unfold k_Mo_open_100
  exact t_k_Mo_open_105 W S ih25 x1 1 q N25 hi25 hx1 (z_w (show y_in (1 : Int32) (1) (1) from ⟨by decide, by decide⟩) (by decide) (by decide)) hq hL hW

theorem t_k_Mo_open_83 (W : Nat) (S : z_SS) (ih25 : Int32 × z_Sg → Option z_Sg) (x1 : Int32) (t1 : Int32) (q : z_Sg) (N25 : Nat) (hi25 : ∀ (x1' : Int32) (q' : z_Sg), y_in x1' 0 255 → iM W z_Z q' → (z_gI q' 4 = -1 → y_in (z_gI q' 6) 1 15) → (z_gI q' 4 = -1 → (17 - (z_gI q' 6).toInt).toNat < N25) → z_ok (ih25 (x1', q')) (fun o : z_Sg => iM W z_Z o)) (hx1 : y_in x1 (0) (243)) (ht1 : y_in t1 (0) (79)) (hq : iM W z_Z q) (hL : z_oL N25 q) (hW : W + 0 ≤ 16) : z_ok (k_Mo_open_83 ih25 x1 t1 q) (fun o : z_Sg => iM W z_Z o) := by
  unfold k_Mo_open_83
  refine z_ok_n (fun q16 e16 => ?_)
  have h16 : iM W z_Z q16 := by rw [e16]; exact iM_sI10 hq ht1
  have l16 : z_oL N25 q16 := by rw [e16]; exact hL
  refine z_ok_i (fun c => ?_) (fun c => t_k_Mo_open_100 W S ih25 x1 q16 N25 hi25 hx1 h16 l16 hW)
  exact z_ok_i (fun c => t_k_Mo_open_100 W S ih25 x1 q16 N25 hi25 hx1 h16 l16 hW) (fun c => t_k_Mo_open_105 W S ih25 x1 0 q16 N25 hi25 hx1 (z_w (show y_in (0 : Int32) (0) (0) from ⟨by decide, by decide⟩) (by decide) (by decide)) h16 l16 hW)

theorem t_k_Mo_open_82 (W : Nat) (S : z_SS) (ih25 : Int32 × z_Sg → Option z_Sg) (x1 : Int32) (q : z_Sg) (N25 : Nat) (hi25 : ∀ (x1' : Int32) (q' : z_Sg), y_in x1' 0 255 → iM W z_Z q' → (z_gI q' 4 = -1 → y_in (z_gI q' 6) 1 15) → (z_gI q' 4 = -1 → (17 - (z_gI q' 6).toInt).toNat < N25) → z_ok (ih25 (x1', q')) (fun o : z_Sg => iM W z_Z o)) (hx1 : y_in x1 (0) (243)) (hq : iM W z_Z q) (hL : z_oL N25 q) (hW : W + 0 ≤ 16) : z_ok (k_Mo_open_82 ih25 x1 q) (fun o : z_Sg => iM W z_Z o) := by
  unfold k_Mo_open_82
  exact t_k_Mo_open_83 W S ih25 x1 0 q N25 hi25 hx1 (z_w (show y_in (0 : Int32) (0) (0) from ⟨by decide, by decide⟩) (by decide) (by decide)) hq hL hW

theorem t_k_Mo_open_65 (W : Nat) (S : z_SS) (ih25 : Int32 × z_Sg → Option z_Sg) (x1 : Int32) (q : z_Sg) (N25 : Nat) (hi25 : ∀ (x1' : Int32) (q' : z_Sg), y_in x1' 0 255 → iM W z_Z q' → (z_gI q' 4 = -1 → y_in (z_gI q' 6) 1 15) → (z_gI q' 4 = -1 → (17 - (z_gI q' 6).toInt).toNat < N25) → z_ok (ih25 (x1', q')) (fun o : z_Sg => iM W z_Z o)) (hx1 : y_in x1 (0) (243)) (hq : iM W z_Z q) (hL : z_oL N25 q) (hW : W + 0 ≤ 16) : z_ok (k_Mo_open_65 ih25 x1 q) (fun o : z_Sg => iM W z_Z o) := by
  unfold k_Mo_open_65
  refine z_ok_i (fun c => t_k_Mo_open_82 W S ih25 x1 q N25 hi25 hx1 hq hL hW) (fun c => ?_)
  refine z_ok_i (fun c2 => t_k_Mo_open_82 W S ih25 x1 q N25 hi25 hx1 hq hL hW) (fun c2 => ?_)
  have h79 := (z_nlt2 c2 (show y_in (79 : Int32) (79) (79) from ⟨by decide, by decide⟩) hx1).2
  exact t_k_Mo_open_83 W S ih25 x1 x1 q N25 hi25 hx1 ⟨by have := hx1.1; omega, by omega⟩ hq hL hW


theorem t_k_Mo_open_25 (W : Nat) (S : z_SS) (x1 : Int32) (q : z_Sg) (hx1 : y_in x1 0 255) (hq : iM W z_Z q) (hl : z_gI q 4 = -1 → y_in (z_gI q 6) 1 15) (hW : W + 0 ≤ 16) : z_ok (k_Mo_open_25 x1 q) (fun o : z_Sg => iM W z_Z o) := by
  unfold k_Mo_open_25
  refine z_ok_l (fun a : Int32 × z_Sg => y_in a.1 0 255 ∧ iM W z_Z a.2 ∧ (z_gI a.2 4 = -1 → y_in (z_gI a.2 6) 1 15)) (fun a => if z_gI a.2 4 = -1 then (17 - (z_gI a.2 6).toInt).toNat else 0) ?_ (x1, q) ⟨hx1, hq, hl⟩ ?_
  · intro ih a ha hih
    unfold kb_Mo_open_25
    have d128 := t_k_Mo_open_128 W z_Z a.1 a.2 ha.1 ha.2.1 hW
    refine z_ok_i (fun c => ?_) (fun c => d128)
    have hi : ∀ (x1' : Int32) (q' : z_Sg), y_in x1' 0 255 → iM W z_Z q' → (z_gI q' 4 = -1 → y_in (z_gI q' 6) 1 15) → (z_gI q' 4 = -1 → (17 - (z_gI q' 6).toInt).toNat < (17 - (z_gI a.2 6).toInt).toNat) → z_ok (ih (x1', q')) (fun o : z_Sg => iM W z_Z o) := by
      intro x' q' g1 g2 g3 g4
      refine hih (x', q') ⟨g1, g2, g3⟩ ?_
      show (if z_gI q' 4 = -1 then _ else _) < (if z_gI a.2 4 = -1 then _ else _)
      rw [if_pos c]
      have := (ha.2.2 c).2
      by_cases hc : z_gI q' 4 = -1
      · rw [if_pos hc]; exact g4 hc
      · rw [if_neg hc]; omega
    have go : y_in a.1 (0) (243) → z_ok (k_Mo_open_65 ih a.1 a.2) (fun o : z_Sg => iM W z_Z o) := fun h => t_k_Mo_open_65 W S ih a.1 a.2 _ hi h ha.2.1 ⟨c, ha.2.2 c, Nat.le_refl _⟩ hW
    refine z_ok_i (fun c2 => go (z_eq1 c2 ⟨by decide, by decide⟩)) (fun c2 => ?_)
    refine z_ok_i (fun c3 => go (z_eq1 c3 ⟨by decide, by decide⟩)) (fun c3 => ?_)
    refine z_ok_i (fun c4 => go (z_eq1 c4 ⟨by decide, by decide⟩)) (fun c4 => ?_)
    refine z_ok_i (fun c5 => d128) (fun c5 => ?_)
    refine z_ok_i (fun c6 => d128) (fun c6 => ?_)
    have h1 := (z_nlt1 c5 ha.1 (show y_in (64 : Int32) (64) (64) from ⟨by decide, by decide⟩)).1
    have h2 := (z_nlt2 c6 (show y_in (79 : Int32) (79) (79) from ⟨by decide, by decide⟩) ha.1).2
    exact go ⟨by omega, by omega⟩
  · show (if z_gI q 4 = -1 then (17 - (z_gI q 6).toInt).toNat else 0) < 2000
    by_cases hc : z_gI q 4 = -1
    · rw [if_pos hc]; have := (hl hc).1; omega
    · rw [if_neg hc]; omega

set_option maxHeartbeats 4000000 in
set_option maxRecDepth 100000 in
theorem t_f_Mo_open (W : Nat) (S : z_SS) (q : z_Sg) (hq : iM W S q) (hW : W + 0 ≤ 16) : z_ok (f_Mo_open q) (fun o : z_Sg => iM W z_Z o) := by
  unfold f_Mo_open
  refine z_ok_n (fun q1 e1 => ?_)
  have h1 : iM W z_Z q1 := by rw [e1]; exact iM_sI6 hq
  refine z_ok_n (fun q2 e2 => ?_)
  have h2 : iM W z_Z q2 := by rw [e2]; exact iM_sI10 h1 ⟨by decide, by decide⟩
  refine z_ok_n (fun q3 e3 => ?_)
  have h3 : iM W z_Z q3 := by rw [e3]; exact iM_sI11 h2 ⟨by decide, by decide⟩
  refine z_ok_n (fun q4 e4 => ?_)
  have h4 : iM W z_Z q4 := by rw [e4]; exact iM_sI16 h3 ⟨by decide, by decide⟩
  have l4 : z_gI q4 6 = 0 := by rw [e4, e3, e2, e1]; rfl
  refine z_ok_b (t_fetch W z_Z q4 h4 hW) (fun r5 hr5 => ?_)
  refine t_k_Mo_open_25 W S r5.1 r5.2 hr5.1.2 hr5.1.1 (fun h => ?_) hW
  rw [(hr5.2 h).2.2, l4]
  exact ⟨by decide, by decide⟩

set_option maxHeartbeats 4000000 in
set_option maxRecDepth 100000 in
theorem t_k_Mo_wide_27 (W : Nat) (S : z_SS) (t0 : Int32) (q : z_Sg) (ht0 : y_in t0 (2) (8)) (hq : iM W S q) (hW : W + 0 ≤ 16) : z_ok (k_Mo_wide_27 t0 q) (fun o : Int32 => y_in o (2) (8)) := by
  unfold k_Mo_wide_27
  exact z_ok_s ht0

set_option maxHeartbeats 4000000 in
set_option maxRecDepth 100000 in
theorem t_f_Mo_wide (W : Nat) (S : z_SS) (q : z_Sg) (hq : iM W S q) (hW : W + 0 ≤ 16) : z_ok (f_Mo_wide q) (fun o : Int32 => y_in o (2) (8)) := by
  unfold f_Mo_wide
  refine z_ok_i (fun c234125 => ?_) (fun c234125 => ?_)
  · have z234126 : y_in ((z_gI q 10) &&& (8 : Int32)) (0) (0) := z_w (z_eq1 c234125 (show y_in (0 : Int32) (0) (0) from ⟨by decide, by decide⟩)) (by decide) (by decide)
    refine z_ok_i (fun c234127 => ?_) (fun c234127 => ?_)
    · have z234128 : y_in (z_gI q 16) (0) (0) := z_w (z_eq1 c234127 (show y_in (0 : Int32) (0) (0) from ⟨by decide, by decide⟩)) (by decide) (by decide)
      exact t_k_Mo_wide_27 W S (4 : Int32) q (z_w (show y_in (4 : Int32) (4) (4) from ⟨by decide, by decide⟩) (by decide) (by decide)) hq hW
    · have z234129 : y_in (z_gI q 16) (1) (1) := z_w (z_ne1 c234127 (iM_f16 hq) (by decide)) (by decide) (by decide)
      exact t_k_Mo_wide_27 W S (2 : Int32) q (z_w (show y_in (2 : Int32) (2) (2) from ⟨by decide, by decide⟩) (by decide) (by decide)) hq hW
  · have z234130 : y_in ((z_gI q 10) &&& (8 : Int32)) (1) (8) := z_w (z_ne1 c234125 (z_and (show y_in (8 : Int32) (8) (8) from ⟨by decide, by decide⟩) (by decide)) (by decide)) (by decide) (by decide)
    exact t_k_Mo_wide_27 W S (8 : Int32) q (z_w (show y_in (8 : Int32) (8) (8) from ⟨by decide, by decide⟩) (by decide) (by decide)) hq hW

set_option maxHeartbeats 4000000 in
set_option maxRecDepth 100000 in
theorem t_f_Mo_takeMod (W : Nat) (S : z_SS) (q : z_Sg) (hq : iM W S q) (hW : W + 0 ≤ 16) : z_ok (f_Mo_takeMod q) (fun o : z_Sg => iM W z_Z o) := by
  unfold f_Mo_takeMod
  refine z_ok_b (t_f_Mo_fetch W S q hq (by omega)) (fun r1 hr1 => ?_)
  refine z_ok_n (fun q2 eq2 => ?_)
  have hq2 : iM W z_Z q2 := by rw [eq2]; exact (iM_sI7 hr1.1 (z_w (a' := 0) (b' := 3) (z_div 64 hr1.2 (by decide) rfl (by decide) (by decide)) (by decide) (by decide)))
  refine z_ok_n (fun q3 eq3 => ?_)
  have hq3 : iM W z_Z q3 := by rw [eq3]; exact (iM_sI8 hq2 (z_w (a' := 0) (b' := 7) (z_mod 8 (z_w (a' := 0) (b' := 31) (z_div 8 hr1.2 (by decide) rfl (by decide) (by decide)) (by decide) (by decide)) (by decide) rfl (by decide) (by decide)) (by decide) (by decide)))
  refine z_ok_n (fun q4 eq4 => ?_)
  have hq4 : iM W z_Z q4 := by rw [eq4]; exact (iM_sI9 hq3 (z_w (a' := 0) (b' := 7) (z_mod 8 hr1.2 (by decide) rfl (by decide) (by decide)) (by decide) (by decide)))
  exact z_ok_s hq4

set_option maxHeartbeats 4000000 in
set_option maxRecDepth 100000 in
theorem t_k_Mo_plus_15 (W : Nat) (S : z_SS) (t0 : Int32) (q : z_Sg) (ht0 : y_in t0 (0) (8)) (hq : iM W S q) (hW : W + 0 ≤ 16) : z_ok (k_Mo_plus_15 t0 q) (fun o : Int32 => y_in o (0) (8)) := by
  unfold k_Mo_plus_15
  exact z_ok_s ht0

set_option maxHeartbeats 4000000 in
set_option maxRecDepth 100000 in
theorem t_f_Mo_plus (W : Nat) (S : z_SS) (x1 : Int32) (q : z_Sg) (hx1 : y_in x1 (1) (4)) (hq : iM W S q) (hW : W + 0 ≤ 16) : z_ok (f_Mo_plus x1 q) (fun o : Int32 => y_in o (0) (8)) := by
  unfold f_Mo_plus
  refine z_ok_i (fun c234131 => ?_) (fun c234131 => ?_)
  · have z234132 : y_in ((z_gI q 10) &&& x1) (0) (0) := z_w (z_eq1 c234131 (show y_in (0 : Int32) (0) (0) from ⟨by decide, by decide⟩)) (by decide) (by decide)
    exact t_k_Mo_plus_15 W S (0 : Int32) q (z_w (show y_in (0 : Int32) (0) (0) from ⟨by decide, by decide⟩) (by decide) (by decide)) hq hW
  · have z234133 : y_in ((z_gI q 10) &&& x1) (1) (4) := z_w (z_ne1 c234131 (z_and hx1 (by decide)) (by decide)) (by decide) (by decide)
    exact t_k_Mo_plus_15 W S (8 : Int32) q (z_w (show y_in (8 : Int32) (8) (8) from ⟨by decide, by decide⟩) (by decide) (by decide)) hq hW

set_option maxHeartbeats 4000000 in
set_option maxRecDepth 100000 in
theorem t_k_Mo_extended_62 (W : Nat) (S : z_SS) (ih30 : Int32 × Int64 × Int32 → Option Int64) (x3 : Int32) (x6 : Int32) (t0 : Int64) (q : z_Sg) (hi30 : ∀ (x3' : Int32) (x4' : Int64) (x6' : Int32), y_in x3' (0) (1) → y_in x6' (0) (127) → (127 - x6'.toInt).toNat < (127 - x6.toInt).toNat → z_ok (ih30 (x3', x4', x6')) (fun _ : Int64 => True)) (hx3 : y_in x3 (0) (1)) (hx6 : y_in x6 (0) (63)) (hq : iM W S q) (hW : W + 0 ≤ 16) : z_ok (k_Mo_extended_62 ih30 x3 x6 t0 q) (fun _ : Int64 => True) := by
  unfold k_Mo_extended_62
  refine z_ok_n (fun n5 en5 => ?_)
  have hn5 : y_in n5 (1) (64) := z_e en5 (z_w (a' := 1) (b' := 64) (z_add hx6 (show y_in (1 : Int32) (1) (1) from ⟨by decide, by decide⟩) (by decide) (by decide)) (by decide) (by decide))
  exact hi30 x3 t0 n5 hx3 (z_w hn5 (by decide) (by decide)) (z_mu (127) 1 hx6 en5 (by decide) (by decide) (by decide) (by decide))

set_option maxHeartbeats 4000000 in
set_option maxRecDepth 100000 in
theorem t_kb_Mo_extended_30 (W : Nat) (S : z_SS) (ih30 : Int32 × Int64 × Int32 → Option Int64) (x3 : Int32) (x4 : Int64) (x6 : Int32) (q : z_Sg) (hi30 : ∀ (x3' : Int32) (x4' : Int64) (x6' : Int32), y_in x3' (0) (1) → y_in x6' (0) (127) → (127 - x6'.toInt).toNat < (127 - x6.toInt).toNat → z_ok (ih30 (x3', x4', x6')) (fun _ : Int64 => True)) (hx3 : y_in x3 (0) (1)) (hx6 : y_in x6 (0) (127)) (hq : iM W S q) (hW : W + 0 ≤ 16) : z_ok (kb_Mo_extended_30 ih30 x3 x4 x6 q) (fun _ : Int64 => True) := by
  unfold kb_Mo_extended_30
  refine z_ok_i (fun c234134 => ?_) (fun c234134 => ?_)
  · have z234135 : y_in x6 (64) (127) := z_w (z_le2 c234134 (show y_in (64 : Int32) (64) (64) from ⟨by decide, by decide⟩) hx6) (by decide) (by decide)
    exact z_ok_s trivial
  · have z234136 : y_in x6 (0) (63) := z_w (z_nle2 c234134 (show y_in (64 : Int32) (64) (64) from ⟨by decide, by decide⟩) hx6) (by decide) (by decide)
    refine z_ok_i (fun c234137 => ?_) (fun c234137 => ?_)
    · have z234138 : y_in x3 (0) (0) := z_w (z_eq1 c234137 (show y_in (0 : Int32) (0) (0) from ⟨by decide, by decide⟩)) (by decide) (by decide)
      exact t_k_Mo_extended_62 W S ih30 x3 x6 (x4 &&& ((z_lshl (1 : Int64) x6) ^^^ (-1 : Int64))) q hi30 (z_w z234138 (by decide) (by decide)) z234136 hq hW
    · have z234139 : y_in x3 (1) (1) := z_w (z_ne1 c234137 hx3 (by decide)) (by decide) (by decide)
      exact t_k_Mo_extended_62 W S ih30 x3 x6 (x4 ||| (z_lshl (1 : Int64) x6)) q hi30 (z_w z234139 (by decide) (by decide)) z234136 hq hW

set_option maxHeartbeats 4000000 in
set_option maxRecDepth 100000 in
theorem t_k_Mo_extended_30 (W : Nat) (S : z_SS) (x3 : Int32) (x4 : Int64) (x6 : Int32) (q : z_Sg) (hx3 : y_in x3 (0) (1)) (hx6 : y_in x6 (0) (127)) (hq : iM W S q) (hW : W + 0 ≤ 16) : z_ok (k_Mo_extended_30 x3 x4 x6 q) (fun _ : Int64 => True) := by
  unfold k_Mo_extended_30
  refine z_ok_l (fun a : Int32 × Int64 × Int32 => y_in a.1 (0) (1) ∧ y_in a.2.2 (0) (127)) (fun a => (127 - a.2.2.toInt).toNat) ?_ (x3, x4, x6) ⟨hx3, hx6⟩ (by show ((127 - x6.toInt).toNat) < 2000; have z1 := hx6.1; have z2 := hx6.2; omega)
  intro ih a ha hih
  exact t_kb_Mo_extended_30 W S ih a.1 a.2.1 a.2.2 q (fun x3' x4' x6' hx3' hx6' hm => hih (x3', x4', x6') ⟨hx3', hx6'⟩ hm) ha.1 ha.2 hq hW

set_option maxHeartbeats 4000000 in
set_option maxRecDepth 100000 in
theorem t_k_Mo_extended_20 (W : Nat) (S : z_SS) (x0 : Int64) (x2 : Int32) (t0 : Int32) (q : z_Sg) (hx2 : y_in x2 (0) (15)) (ht0 : y_in t0 (0) (1)) (hq : iM W S q) (hW : W + 0 ≤ 16) : z_ok (k_Mo_extended_20 x0 x2 t0 q) (fun _ : Int64 => True) := by
  unfold k_Mo_extended_20
  refine z_ok_n (fun n2 en2 => ?_)
  have hn2 : y_in n2 (0) (120) := z_e en2 (z_w (a' := 0) (b' := 120) (z_mul (show y_in (8 : Int32) (8) (8) from ⟨by decide, by decide⟩) hx2 (by decide) (by decide) (by decide)) (by decide) (by decide))
  exact t_k_Mo_extended_30 W S t0 x0 n2 q ht0 (z_w hn2 (by decide) (by decide)) hq hW

set_option maxHeartbeats 4000000 in
set_option maxRecDepth 100000 in
theorem t_f_Mo_extended (W : Nat) (S : z_SS) (x0 : Int64) (x2 : Int32) (q : z_Sg) (hx2 : y_in x2 (0) (15)) (hq : iM W S q) (hW : W + 0 ≤ 16) : z_ok (f_Mo_extended x0 x2 q) (fun _ : Int64 => True) := by
  unfold f_Mo_extended
  refine z_ok_i (fun c234140 => ?_) (fun c234140 => ?_)
  · exact t_k_Mo_extended_20 W S x0 x2 (1 : Int32) q hx2 (z_w (show y_in (1 : Int32) (1) (1) from ⟨by decide, by decide⟩) (by decide) (by decide)) hq hW
  · exact t_k_Mo_extended_20 W S x0 x2 (0 : Int32) q hx2 (z_w (show y_in (0 : Int32) (0) (0) from ⟨by decide, by decide⟩) (by decide) (by decide)) hq hW

set_option maxHeartbeats 4000000 in
set_option maxRecDepth 100000 in
theorem t_kb_Mo_fetchNumber_5 (W : Nat) (S : z_SS) (ih5 : Int32 × Int64 × Int32 × z_Sg → Option (Int64 × z_Sg)) (x1 : Int32) (x2 : Int64) (x4 : Int32) (q : z_Sg) (hi5 : ∀ (x1' : Int32) (x2' : Int64) (x4' : Int32) (q' : z_Sg), y_in x1' (1) (8) → y_in x4' (0) (8) → iM W z_Z q' → (8 - x4'.toInt).toNat < (8 - x4.toInt).toNat → z_ok (ih5 (x1', x2', x4', q')) (fun o : Int64 × z_Sg => iM W z_Z o.2)) (hx1 : y_in x1 (1) (8)) (hx4 : y_in x4 (0) (8)) (hq : iM W z_Z q) (hW : W + 0 ≤ 16) : z_ok (kb_Mo_fetchNumber_5 ih5 x1 x2 x4 q) (fun o : Int64 × z_Sg => iM W z_Z o.2) := by
  unfold kb_Mo_fetchNumber_5
  refine z_ok_i (fun c234141 => ?_) (fun c234141 => ?_)
  · have z234142 : y_in x4 (1) (8) := z_w (z_le2 c234141 hx1 hx4) (by decide) (by decide)
    refine z_ok_b (t_f_Mo_extended W z_Z x2 x1 q (z_w hx1 (by decide) (by decide)) hq (by omega)) (fun r2 hr2 => ?_)
    exact z_ok_s hq
  · have z234143 : y_in x4 (0) (7) := z_w (z_nle2 c234141 hx1 hx4) (by decide) (by decide)
    refine z_ok_b (t_f_Mo_fetch W z_Z q hq (by omega)) (fun r3 hr3 => ?_)
    refine z_ok_n (fun n4 en4 => ?_)
    refine z_ok_n (fun n5 en5 => ?_)
    have hn5 : y_in n5 (1) (8) := z_e en5 (z_w (a' := 1) (b' := 8) (z_add z234143 (show y_in (1 : Int32) (1) (1) from ⟨by decide, by decide⟩) (by decide) (by decide)) (by decide) (by decide))
    exact hi5 x1 n4 n5 r3.2 hx1 (z_w hn5 (by decide) (by decide)) hr3.1 (z_mu (8) 1 z234143 en5 (by decide) (by decide) (by decide) (by decide))

set_option maxHeartbeats 4000000 in
set_option maxRecDepth 100000 in
theorem t_k_Mo_fetchNumber_5 (W : Nat) (S : z_SS) (x1 : Int32) (x2 : Int64) (x4 : Int32) (q : z_Sg) (hx1 : y_in x1 (1) (8)) (hx2 : y_il x2 (0) (0)) (hx4 : y_in x4 (0) (0)) (hq : iM W z_Z q) (hW : W + 0 ≤ 16) : z_ok (k_Mo_fetchNumber_5 x1 x2 x4 q) (fun o : Int64 × z_Sg => iM W z_Z o.2) := by
  unfold k_Mo_fetchNumber_5
  refine z_ok_l (fun a : Int32 × Int64 × Int32 × z_Sg => y_in a.1 (1) (8) ∧ y_in a.2.2.1 (0) (8) ∧ iM W z_Z a.2.2.2) (fun a => (8 - a.2.2.1.toInt).toNat) ?_ (x1, x2, x4, q) ⟨hx1, (z_w hx4 (by decide) (by decide)), hq⟩ (by show ((8 - x4.toInt).toNat) < 2000; have z1 := hx4.1; have z2 := hx4.2; omega)
  intro ih a ha hih
  exact t_kb_Mo_fetchNumber_5 W S ih a.1 a.2.1 a.2.2.1 a.2.2.2 (fun x1' x2' x4' q' hx1' hx4' hq' hm => hih (x1', x2', x4', q') ⟨hx1', hx4', hq'⟩ hm) ha.1 ha.2.1 ha.2.2 hW

set_option maxHeartbeats 4000000 in
set_option maxRecDepth 100000 in
theorem t_f_Mo_fetchNumber (W : Nat) (S : z_SS) (x1 : Int32) (q : z_Sg) (hx1 : y_in x1 (1) (8)) (hq : iM W S q) (hW : W + 0 ≤ 16) : z_ok (f_Mo_fetchNumber x1 q) (fun o : Int64 × z_Sg => iM W z_Z o.2) := by
  unfold f_Mo_fetchNumber
  exact t_k_Mo_fetchNumber_5 W S x1 (0 : Int64) (0 : Int32) q hx1 (show y_il (0 : Int64) (0) (0) from ⟨by decide, by decide⟩) (show y_in (0 : Int32) (0) (0) from ⟨by decide, by decide⟩) (iM_0 hq) hW

set_option maxHeartbeats 4000000 in
set_option maxRecDepth 100000 in
theorem t_k_Mo_takePlace_36 (W : Nat) (S : z_SS) (q : z_Sg) (hq : iM W S q) (hW : W + 0 ≤ 16) : z_ok (k_Mo_takePlace_36 q) (fun o : z_Sg => iM W z_Z o) := by
  unfold k_Mo_takePlace_36
  exact z_ok_s (iM_0 hq)

set_option maxHeartbeats 4000000 in
set_option maxRecDepth 100000 in
theorem t_k_Mo_takePlace_214 (W : Nat) (S : z_SS) (q : z_Sg) (hq : iM W z_Z q) (hW : W + 0 ≤ 16) : z_ok (k_Mo_takePlace_214 q) (fun o : z_Sg => iM W z_Z o) := by
  unfold k_Mo_takePlace_214
  exact z_ok_s hq

set_option maxHeartbeats 4000000 in
set_option maxRecDepth 100000 in
theorem t_k_Mo_takePlace_201 (W : Nat) (S : z_SS) (x1 : Int32) (q : z_Sg) (hx1 : y_in x1 (0) (4)) (hq : iM W z_Z q) (hW : W + 0 ≤ 16) : z_ok (k_Mo_takePlace_201 x1 q) (fun o : z_Sg => iM W z_Z o) := by
  unfold k_Mo_takePlace_201
  refine z_ok_i (fun c234144 => ?_) (fun c234144 => ?_)
  · have z234145 : y_in x1 (0) (0) := z_w (z_le1 c234144 hx1 (show y_in (0 : Int32) (0) (0) from ⟨by decide, by decide⟩)) (by decide) (by decide)
    exact t_k_Mo_takePlace_214 W S q hq hW
  · have z234146 : y_in x1 (1) (4) := z_w (z_nle1 c234144 hx1 (show y_in (0 : Int32) (0) (0) from ⟨by decide, by decide⟩)) (by decide) (by decide)
    refine z_ok_b (t_f_Mo_fetchNumber W z_Z x1 q (z_w z234146 (by decide) (by decide)) hq (by omega)) (fun r19 hr19 => ?_)
    refine z_ok_n (fun q20 eq20 => ?_)
    have hq20 : iM W z_Z q20 := by rw [eq20]; exact (iM_sL hr19)
    exact t_k_Mo_takePlace_214 W S q20 hq20 hW

set_option maxHeartbeats 4000000 in
set_option maxRecDepth 100000 in
theorem t_k_Mo_takePlace_187 (W : Nat) (S : z_SS) (x1 : Int32) (x2 : Int32) (q : z_Sg) (hx1 : y_in x1 (0) (4)) (hx2 : y_in x2 (0) (255)) (hq : iM W z_Z q) (hW : W + 0 ≤ 16) : z_ok (k_Mo_takePlace_187 x1 x2 q) (fun o : z_Sg => iM W z_Z o) := by
  unfold k_Mo_takePlace_187
  refine z_ok_b (t_f_Mo_plus W z_Z (1 : Int32) q (z_w (show y_in (1 : Int32) (1) (1) from ⟨by decide, by decide⟩) (by decide) (by decide)) hq (by omega)) (fun r16 hr16 => ?_)
  refine z_ok_n (fun q17 eq17 => ?_)
  have hq17 : iM W z_Z q17 := by rw [eq17]; exact (iM_sI13 hq (z_w (z_w (a' := 0) (b' := 15) (z_add (z_w (a' := 0) (b' := 7) (z_mod 8 hx2 (by decide) rfl (by decide) (by decide)) (by decide) (by decide)) hr16 (by decide) (by decide)) (by decide) (by decide)) (by decide) (by decide)))
  exact t_k_Mo_takePlace_201 W S x1 q17 hx1 hq17 hW

set_option maxHeartbeats 4000000 in
set_option maxRecDepth 100000 in
theorem t_k_Mo_takePlace_167 (W : Nat) (S : z_SS) (x1 : Int32) (x2 : Int32) (q : z_Sg) (hx1 : y_in x1 (0) (4)) (hx2 : y_in x2 (0) (255)) (hq : iM W z_Z q) (hW : W + 0 ≤ 16) : z_ok (k_Mo_takePlace_167 x1 x2 q) (fun o : z_Sg => iM W z_Z o) := by
  unfold k_Mo_takePlace_167
  refine z_ok_i (fun c234147 => ?_) (fun c234147 => ?_)
  · have z234148 : y_in (x2 - ((x2 / (8 : Int32)) * (8 : Int32))) (5) (5) := z_w (z_eq1 c234147 (show y_in (5 : Int32) (5) (5) from ⟨by decide, by decide⟩)) (by decide) (by decide)
    refine z_ok_i (fun c234149 => ?_) (fun c234149 => ?_)
    · have z234150 : y_in (z_gI q 7) (0) (0) := z_w (z_eq1 c234149 (show y_in (0 : Int32) (0) (0) from ⟨by decide, by decide⟩)) (by decide) (by decide)
      exact t_k_Mo_takePlace_201 W S (4 : Int32) q (z_w (show y_in (4 : Int32) (4) (4) from ⟨by decide, by decide⟩) (by decide) (by decide)) hq hW
    · have z234151 : y_in (z_gI q 7) (1) (3) := z_w (z_ne1 c234149 (iM_f7 hq) (by decide)) (by decide) (by decide)
      exact t_k_Mo_takePlace_187 W S x1 x2 q hx1 hx2 hq hW
  · exact t_k_Mo_takePlace_187 W S x1 x2 q hx1 hx2 hq hW

set_option maxHeartbeats 4000000 in
set_option maxRecDepth 100000 in
theorem t_k_Mo_takePlace_92 (W : Nat) (S : z_SS) (x1 : Int32) (t1 : Int32) (q : z_Sg) (hx1 : y_in x1 (0) (4)) (ht1 : y_in t1 (0) (1)) (hq : iM W S q) (hW : W + 0 ≤ 16) : z_ok (k_Mo_takePlace_92 x1 t1 q) (fun o : z_Sg => iM W z_Z o) := by
  unfold k_Mo_takePlace_92
  refine z_ok_G (z_bi ht1) ?_
  refine z_ok_n (fun q25 eq25 => ?_)
  have hq25 : iM W S q25 := by rw [eq25]; exact (iM_sI17 hq ht1)
  refine z_ok_i (fun c234152 => ?_) (fun c234152 => ?_)
  · have z234153 : y_in (z_gI q25 17) (0) (0) := z_w (z_eq1 c234152 (show y_in (0 : Int32) (0) (0) from ⟨by decide, by decide⟩)) (by decide) (by decide)
    refine z_ok_b (t_f_Mo_plus W S (1 : Int32) q25 (z_w (show y_in (1 : Int32) (1) (1) from ⟨by decide, by decide⟩) (by decide) (by decide)) hq25 (by omega)) (fun r27 hr27 => ?_)
    refine z_ok_n (fun q28 eq28 => ?_)
    have hq28 : iM W S q28 := by rw [eq28]; exact (iM_sI13 hq25 (z_w (z_w (a' := 0) (b' := 15) (z_add (iM_f9 hq25) hr27 (by decide) (by decide)) (by decide) (by decide)) (by decide) (by decide)))
    exact t_k_Mo_takePlace_201 W S x1 q28 hx1 (iM_0 hq28) hW
  · have z234154 : y_in (z_gI q25 17) (1) (1) := z_w (z_ne1 c234152 (iM_f17 hq25) (by decide)) (by decide) (by decide)
    exact t_k_Mo_takePlace_201 W S (4 : Int32) q25 (z_w (show y_in (4 : Int32) (4) (4) from ⟨by decide, by decide⟩) (by decide) (by decide)) (iM_0 hq25) hW

set_option maxHeartbeats 4000000 in
set_option maxRecDepth 100000 in
theorem t_k_Mo_takePlace_91 (W : Nat) (S : z_SS) (x1 : Int32) (q : z_Sg) (hx1 : y_in x1 (0) (4)) (hq : iM W S q) (hW : W + 0 ≤ 16) : z_ok (k_Mo_takePlace_91 x1 q) (fun o : z_Sg => iM W z_Z o) := by
  unfold k_Mo_takePlace_91
  exact t_k_Mo_takePlace_92 W S x1 (0 : Int32) q hx1 (z_w (show y_in (0 : Int32) (0) (0) from ⟨by decide, by decide⟩) (by decide) (by decide)) hq hW

set_option maxHeartbeats 4000000 in
set_option maxRecDepth 100000 in
theorem t_k_Mo_takePlace_62 (W : Nat) (S : z_SS) (t0 : Int32) (q : z_Sg) (ht0 : y_in t0 (0) (4)) (hq : iM W S q) (hW : W + 0 ≤ 16) : z_ok (k_Mo_takePlace_62 t0 q) (fun o : z_Sg => iM W z_Z o) := by
  unfold k_Mo_takePlace_62
  refine z_ok_i (fun c234155 => ?_) (fun c234155 => ?_)
  · have z234156 : y_in (z_gI q 9) (4) (4) := z_w (z_eq1 c234155 (show y_in (4 : Int32) (4) (4) from ⟨by decide, by decide⟩)) (by decide) (by decide)
    refine z_ok_b (t_f_Mo_fetch W S q hq (by omega)) (fun r10 hr10 => ?_)
    refine z_ok_n (fun q11 eq11 => ?_)
    have hq11 : iM W z_Z q11 := by rw [eq11]; exact (iM_sI12 hr10.1 (z_w (a' := 0) (b' := 3) (z_div 64 hr10.2 (by decide) rfl (by decide) (by decide)) (by decide) (by decide)))
    refine z_ok_b (t_f_Mo_plus W z_Z (2 : Int32) q11 (z_w (show y_in (2 : Int32) (2) (2) from ⟨by decide, by decide⟩) (by decide) (by decide)) hq11 (by omega)) (fun r12 hr12 => ?_)
    refine z_ok_n (fun q13 eq13 => ?_)
    have hq13 : iM W z_Z q13 := by rw [eq13]; exact (iM_sI14 hq11 (z_w (z_w (a' := 0) (b' := 15) (z_add (z_w (a' := 0) (b' := 7) (z_mod 8 (z_w (a' := 0) (b' := 31) (z_div 8 hr10.2 (by decide) rfl (by decide) (by decide)) (by decide) (by decide)) (by decide) rfl (by decide) (by decide)) (by decide) (by decide)) hr12 (by decide) (by decide)) (by decide) (by decide)) (by decide) (by decide)))
    refine z_ok_i (fun c234157 => ?_) (fun c234157 => ?_)
    · have z234158 : y_in (z_gI q13 14) (4) (4) := z_w (z_eq1 c234157 (show y_in (4 : Int32) (4) (4) from ⟨by decide, by decide⟩)) (by decide) (by decide)
      refine z_ok_n (fun q22 eq22 => ?_)
      have hq22 : iM W z_Z q22 := by rw [eq22]; exact (iM_sI14 hq13 (z_w (show y_in (-1 : Int32) (-1) (-1) from ⟨by decide, by decide⟩) (by decide) (by decide)))
      exact t_k_Mo_takePlace_167 W S t0 r10.1 q22 ht0 hr10.2 hq22 hW
    · exact t_k_Mo_takePlace_167 W S t0 r10.1 q13 ht0 hr10.2 hq13 hW
  · refine z_ok_i (fun c234159 => ?_) (fun c234159 => ?_)
    · have z234160 : y_in (z_gI q 9) (5) (5) := z_w (z_eq1 c234159 (show y_in (5 : Int32) (5) (5) from ⟨by decide, by decide⟩)) (by decide) (by decide)
      refine z_ok_i (fun c234161 => ?_) (fun c234161 => ?_)
      · have z234162 : y_in (z_gI q 7) (0) (0) := z_w (z_eq1 c234161 (show y_in (0 : Int32) (0) (0) from ⟨by decide, by decide⟩)) (by decide) (by decide)
        exact t_k_Mo_takePlace_92 W S t0 (1 : Int32) q ht0 (z_w (show y_in (1 : Int32) (1) (1) from ⟨by decide, by decide⟩) (by decide) (by decide)) hq hW
      · have z234163 : y_in (z_gI q 7) (1) (3) := z_w (z_ne1 c234161 (iM_f7 hq) (by decide)) (by decide) (by decide)
        exact t_k_Mo_takePlace_91 W S t0 q ht0 hq hW
    · exact t_k_Mo_takePlace_91 W S t0 q ht0 hq hW

set_option maxHeartbeats 4000000 in
set_option maxRecDepth 100000 in
theorem t_f_Mo_takePlace (W : Nat) (S : z_SS) (q : z_Sg) (hq : iM W S q) (hW : W + 0 ≤ 16) : z_ok (f_Mo_takePlace q) (fun o : z_Sg => iM W z_Z o) := by
  unfold f_Mo_takePlace
  refine z_ok_n (fun q1 eq1 => ?_)
  have hq1 : iM W S q1 := by rw [eq1]; exact (iM_sI13 hq (z_w (show y_in (-1 : Int32) (-1) (-1) from ⟨by decide, by decide⟩) (by decide) (by decide)))
  refine z_ok_n (fun q2 eq2 => ?_)
  have hq2 : iM W S q2 := by rw [eq2]; exact (iM_sI14 hq1 (z_w (show y_in (-1 : Int32) (-1) (-1) from ⟨by decide, by decide⟩) (by decide) (by decide)))
  refine z_ok_n (fun q3 eq3 => ?_)
  have hq3 : iM W S q3 := by rw [eq3]; exact (iM_sI17 hq2 (z_w (show y_in (0 : Int32) (0) (0) from ⟨by decide, by decide⟩) (by decide) (by decide)))
  refine z_ok_n (fun q4 eq4 => ?_)
  have hq4 : iM W S q4 := by rw [eq4]; exact (iM_sL hq3)
  refine z_ok_i (fun c234164 => ?_) (fun c234164 => ?_)
  · have z234165 : y_in (z_gI q4 7) (3) (3) := z_w (z_eq1 c234164 (show y_in (3 : Int32) (3) (3) from ⟨by decide, by decide⟩)) (by decide) (by decide)
    exact t_k_Mo_takePlace_36 W S q4 hq4 hW
  · have z234166 : y_in (z_gI q4 7) (0) (2) := z_w (z_ne2 c234164 (iM_f7 hq4) (by decide)) (by decide) (by decide)
    refine z_ok_i (fun c234167 => ?_) (fun c234167 => ?_)
    · have z234168 : y_in (z_gI q4 4) (-1) (-1) := z_w (z_eq1 c234167 (show y_in (-1 : Int32) (-1) (-1) from ⟨by decide, by decide⟩)) (by decide) (by decide)
      refine z_ok_i (fun c234169 => ?_) (fun c234169 => ?_)
      · have z234170 : y_in (z_gI q4 7) (1) (1) := z_w (z_eq1 c234169 (show y_in (1 : Int32) (1) (1) from ⟨by decide, by decide⟩)) (by decide) (by decide)
        exact t_k_Mo_takePlace_62 W S (1 : Int32) q4 (z_w (show y_in (1 : Int32) (1) (1) from ⟨by decide, by decide⟩) (by decide) (by decide)) hq4 hW
      · refine z_ok_i (fun c234171 => ?_) (fun c234171 => ?_)
        · have z234172 : y_in (z_gI q4 7) (2) (2) := z_w (z_eq1 c234171 (show y_in (2 : Int32) (2) (2) from ⟨by decide, by decide⟩)) (by decide) (by decide)
          exact t_k_Mo_takePlace_62 W S (4 : Int32) q4 (z_w (show y_in (4 : Int32) (4) (4) from ⟨by decide, by decide⟩) (by decide) (by decide)) hq4 hW
        · have z234173 : y_in (z_gI q4 7) (0) (1) := z_w (z_ne2 c234171 z234166 (by decide)) (by decide) (by decide)
          exact t_k_Mo_takePlace_62 W S (0 : Int32) q4 (z_w (show y_in (0 : Int32) (0) (0) from ⟨by decide, by decide⟩) (by decide) (by decide)) hq4 hW
    · have z234174 : y_in (z_gI q4 4) (0) (14) := z_w (z_ne1 c234167 (iM_f4 hq4) (by decide)) (by decide) (by decide)
      exact t_k_Mo_takePlace_36 W S q4 hq4 hW

set_option maxHeartbeats 4000000 in
set_option maxRecDepth 100000 in
theorem t_f_Mo_takeOperand (W : Nat) (S : z_SS) (q : z_Sg) (hq : iM W S q) (hW : W + 0 ≤ 16) : z_ok (f_Mo_takeOperand q) (fun o : z_Sg => iM W z_Z o) := by
  unfold f_Mo_takeOperand
  refine z_ok_b (t_f_Mo_takeMod W S q hq (by omega)) (fun r1 hr1 => ?_)
  refine z_ok_b (t_f_Mo_takePlace W z_Z r1 hr1 (by omega)) (fun r2 hr2 => ?_)
  refine z_ok_n (fun q3 eq3 => ?_)
  have hq3 : iM W z_Z q3 := by rw [eq3]; exact (iM_sL hr2)
  exact z_ok_s hq3

set_option maxHeartbeats 4000000 in
set_option maxRecDepth 100000 in
theorem t_k_Mo_four_10 (W : Nat) (S : z_SS) (t0 : Int32) (q : z_Sg) (ht0 : y_in t0 (1) (4)) (hq : iM W S q) (hW : W + 0 ≤ 16) : z_ok (k_Mo_four_10 t0 q) (fun o : Int32 => y_in o (1) (4)) := by
  unfold k_Mo_four_10
  exact z_ok_s ht0

set_option maxHeartbeats 4000000 in
set_option maxRecDepth 100000 in
theorem t_f_Mo_four (W : Nat) (S : z_SS) (x0 : Int32) (q : z_Sg) (hx0 : y_in x0 (1) (8)) (hq : iM W S q) (hW : W + 0 ≤ 16) : z_ok (f_Mo_four x0 q) (fun o : Int32 => y_in o (1) (4)) := by
  unfold f_Mo_four
  refine z_ok_i (fun c234175 => ?_) (fun c234175 => ?_)
  · have z234176 : y_in x0 (4) (8) := z_w (z_le2 c234175 (show y_in (4 : Int32) (4) (4) from ⟨by decide, by decide⟩) hx0) (by decide) (by decide)
    exact t_k_Mo_four_10 W S (4 : Int32) q (z_w (show y_in (4 : Int32) (4) (4) from ⟨by decide, by decide⟩) (by decide) (by decide)) hq hW
  · have z234177 : y_in x0 (1) (3) := z_w (z_nle2 c234175 (show y_in (4 : Int32) (4) (4) from ⟨by decide, by decide⟩) hx0) (by decide) (by decide)
    exact t_k_Mo_four_10 W S x0 q (z_w z234177 (by decide) (by decide)) hq hW

set_option maxHeartbeats 4000000 in
set_option maxRecDepth 100000 in
theorem t_f_Mo_number (W : Nat) (S : z_SS) (x1 : Int32) (q : z_Sg) (hx1 : y_in x1 (1) (8)) (hq : iM W S q) (hW : W + 0 ≤ 16) : z_ok (f_Mo_number x1 q) (fun o : Int64 × z_Sg => iM W z_Z o.2) := by
  unfold f_Mo_number
  refine z_ok_b (t_f_Mo_fetchNumber W S x1 q hx1 hq (by omega)) (fun r1 hr1 => ?_)
  refine z_ok_n (fun q2 eq2 => ?_)
  have hq2 : iM W z_Z q2 := by rw [eq2]; exact (iM_sL hr1)
  exact z_ok_s hq2

set_option maxHeartbeats 4000000 in
set_option maxRecDepth 100000 in
theorem t_kb_Mo_lowest_5 (W : Nat) (S : z_SS) (ih5 : Int64 × Int32 × Int64 × Int32 → Option Int64) (x0 : Int64) (x2 : Int32) (x3 : Int64) (x5 : Int32) (q : z_Sg) (hi5 : ∀ (x0' : Int64) (x2' : Int32) (x3' : Int64) (x5' : Int32), y_in x2' (1) (8) → y_in x5' (0) (8) → (8 - x5'.toInt).toNat < (8 - x5.toInt).toNat → z_ok (ih5 (x0', x2', x3', x5')) (fun _ : Int64 => True)) (hx2 : y_in x2 (1) (8)) (hx5 : y_in x5 (0) (8)) (hq : iM W S q) (hW : W + 0 ≤ 16) : z_ok (kb_Mo_lowest_5 ih5 x0 x2 x3 x5 q) (fun _ : Int64 => True) := by
  unfold kb_Mo_lowest_5
  refine z_ok_i (fun c234178 => ?_) (fun c234178 => ?_)
  · have z234179 : y_in x5 (1) (8) := z_w (z_le2 c234178 hx2 hx5) (by decide) (by decide)
    exact z_ok_s trivial
  · have z234180 : y_in x5 (0) (7) := z_w (z_nle2 c234178 hx2 hx5) (by decide) (by decide)
    refine z_ok_n (fun n2 en2 => ?_)
    refine z_ok_n (fun n3 en3 => ?_)
    have hn3 : y_in n3 (1) (8) := z_e en3 (z_w (a' := 1) (b' := 8) (z_add z234180 (show y_in (1 : Int32) (1) (1) from ⟨by decide, by decide⟩) (by decide) (by decide)) (by decide) (by decide))
    exact hi5 x0 x2 n2 n3 hx2 (z_w hn3 (by decide) (by decide)) (z_mu (8) 1 z234180 en3 (by decide) (by decide) (by decide) (by decide))
