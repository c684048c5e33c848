set_option maxHeartbeats 4000000 in
set_option maxRecDepth 100000 in
theorem t_k_Mo_lowest_5 (W : Nat) (S : z_SS) (x0 : Int64) (x2 : Int32) (x3 : Int64) (x5 : Int32) (q : z_Sg) (hx2 : y_in x2 (1) (8)) (hx3 : y_il x3 (0) (0)) (hx5 : y_in x5 (0) (0)) (hq : iM W S q) (hW : W + 0 ≤ 16) : z_ok (k_Mo_lowest_5 x0 x2 x3 x5 q) (fun _ : Int64 => True) := by
  unfold k_Mo_lowest_5
  refine z_ok_l (fun a : Int64 × Int32 × Int64 × Int32 => y_in a.2.1 (1) (8) ∧ y_in a.2.2.2 (0) (8)) (fun a => (8 - a.2.2.2.toInt).toNat) ?_ (x0, x2, x3, x5) ⟨hx2, (z_w hx5 (by decide) (by decide))⟩ (by show ((8 - x5.toInt).toNat) < 2000; have z1 := hx5.1; have z2 := hx5.2; omega)
  intro ih a ha hih
  exact t_kb_Mo_lowest_5 W S ih a.1 a.2.1 a.2.2.1 a.2.2.2 q (fun x0' x2' x3' x5' hx2' hx5' hm => hih (x0', x2', x3', x5') ⟨hx2', hx5'⟩ hm) ha.1 ha.2 hq hW

set_option maxHeartbeats 4000000 in
set_option maxRecDepth 100000 in
theorem t_f_Mo_lowest (W : Nat) (S : z_SS) (x0 : Int64) (x2 : Int32) (q : z_Sg) (hx2 : y_in x2 (1) (8)) (hq : iM W S q) (hW : W + 0 ≤ 16) : z_ok (f_Mo_lowest x0 x2 q) (fun _ : Int64 => True) := by
  unfold f_Mo_lowest
  exact t_k_Mo_lowest_5 W S x0 x2 (0 : Int64) (0 : Int32) q hx2 (show y_il (0 : Int64) (0) (0) from ⟨by decide, by decide⟩) (show y_in (0 : Int32) (0) (0) from ⟨by decide, by decide⟩) hq hW

set_option maxHeartbeats 4000000 in
set_option maxRecDepth 100000 in
theorem t_k_Mo_place_101 (W : Nat) (S : z_SS) (x1 : Int64) (x3 : Int64) (q : z_Sg) (hq : iM W S q) (hW : W + 0 ≤ 16) : z_ok (k_Mo_place_101 x1 x3 q) (fun _ : Int64 => True) := by
  unfold k_Mo_place_101
  exact z_ok_s trivial

set_option maxHeartbeats 4000000 in
set_option maxRecDepth 100000 in
theorem t_kb_Mo_place_74 (W : Nat) (S : z_SS) (ih74 : Int64 × Int64 × Int32 → Option Int64) (x1 : Int64) (x3 : Int64) (x5 : Int32) (q : z_Sg) (hi74 : ∀ (x1' : Int64) (x3' : Int64) (x5' : Int32), y_in x5' (0) (3) → (3 - x5'.toInt).toNat < (3 - x5.toInt).toNat → z_ok (ih74 (x1', x3', x5')) (fun _ : Int64 => True)) (hx5 : y_in x5 (0) (3)) (hq : iM W S q) (hW : W + 0 ≤ 16) : z_ok (kb_Mo_place_74 ih74 x1 x3 x5 q) (fun _ : Int64 => True) := by
  unfold kb_Mo_place_74
  refine z_ok_i (fun c234181 => ?_) (fun c234181 => ?_)
  · exact t_k_Mo_place_101 W S x1 x3 q hq hW
  · have z234182 : y_in (z_gI q 12) (1) (3) := z_w (z_nle1 c234181 (iM_f12 hq) hx5) (by decide) (by decide)
    have z234183 : y_in x5 (0) (2) := z_w (z_nle2 c234181 (iM_f12 hq) hx5) (by decide) (by decide)
    refine z_ok_i (fun c234184 => ?_) (fun c234184 => ?_)
    · have z234185 : y_in (z_gI q 14) (-1) (-1) := z_w (z_eq1 c234184 (show y_in (-1 : Int32) (-1) (-1) from ⟨by decide, by decide⟩)) (by decide) (by decide)
      exact t_k_Mo_place_101 W S x1 x3 q hq hW
    · have z234186 : y_in (z_gI q 14) (0) (15) := z_w (z_ne1 c234184 (iM_f14 hq) (by decide)) (by decide) (by decide)
      refine z_ok_n (fun n9 en9 => ?_)
      refine z_ok_n (fun n10 en10 => ?_)
      have hn10 : y_in n10 (1) (3) := z_e en10 (z_w (a' := 1) (b' := 3) (z_add z234183 (show y_in (1 : Int32) (1) (1) from ⟨by decide, by decide⟩) (by decide) (by decide)) (by decide) (by decide))
      exact hi74 x1 n9 n10 (z_w hn10 (by decide) (by decide)) (z_mu (3) 1 z234183 en10 (by decide) (by decide) (by decide) (by decide))

set_option maxHeartbeats 4000000 in
set_option maxRecDepth 100000 in
theorem t_k_Mo_place_74 (W : Nat) (S : z_SS) (x1 : Int64) (x3 : Int64) (x5 : Int32) (q : z_Sg) (hx5 : y_in x5 (0) (0)) (hq : iM W S q) (hW : W + 0 ≤ 16) : z_ok (k_Mo_place_74 x1 x3 x5 q) (fun _ : Int64 => True) := by
  unfold k_Mo_place_74
  refine z_ok_l (fun a : Int64 × Int64 × Int32 => y_in a.2.2 (0) (3)) (fun a => (3 - a.2.2.toInt).toNat) ?_ (x1, x3, x5) (z_w hx5 (by decide) (by decide)) (by show ((3 - x5.toInt).toNat) < 2000; have z1 := hx5.1; have z2 := hx5.2; omega)
  intro ih a ha hih
  exact t_kb_Mo_place_74 W S ih a.1 a.2.1 a.2.2 q (fun x1' x3' x5' hx5' hm => hih (x1', x3', x5') hx5' hm) ha hq hW

set_option maxHeartbeats 4000000 in
set_option maxRecDepth 100000 in
theorem t_k_Mo_place_70 (W : Nat) (S : z_SS) (x1 : Int64) (t0 : Int64) (q : z_Sg) (hq : iM W S q) (hW : W + 0 ≤ 16) : z_ok (k_Mo_place_70 x1 t0 q) (fun _ : Int64 => True) := by
  unfold k_Mo_place_70
  exact t_k_Mo_place_74 W S x1 t0 (0 : Int32) q (show y_in (0 : Int32) (0) (0) from ⟨by decide, by decide⟩) hq hW

set_option maxHeartbeats 4000000 in
set_option maxRecDepth 100000 in
theorem t_k_Mo_place_47 (W : Nat) (S : z_SS) (t0 : Int64) (t1 : Int64) (q : z_Sg) (hq : iM W S q) (hW : W + 0 ≤ 16) : z_ok (k_Mo_place_47 t0 t1 q) (fun _ : Int64 => True) := by
  unfold k_Mo_place_47
  refine z_ok_n (fun n4 en4 => ?_)
  refine z_ok_i (fun c234187 => ?_) (fun c234187 => ?_)
  · have z234188 : y_in (z_gI q 14) (-1) (-1) := z_w (z_eq1 c234187 (show y_in (-1 : Int32) (-1) (-1) from ⟨by decide, by decide⟩)) (by decide) (by decide)
    exact t_k_Mo_place_70 W S n4 (0 : Int64) q hq hW
  · have z234189 : y_in (z_gI q 14) (0) (15) := z_w (z_ne1 c234187 (iM_f14 hq) (by decide)) (by decide) (by decide)
    refine z_ok_g (z_nbad z234189 (by decide)) ?_
    exact t_k_Mo_place_70 W S n4 (z_gM q 0 (z_gI q 14).toNatClampNeg) q hq hW

set_option maxHeartbeats 4000000 in
set_option maxRecDepth 100000 in
theorem t_k_Mo_place_25 (W : Nat) (S : z_SS) (t0 : Int64) (t1 : Int64) (q : z_Sg) (hq : iM W S q) (hW : W + 0 ≤ 16) : z_ok (k_Mo_place_25 t0 t1 q) (fun _ : Int64 => True) := by
  unfold k_Mo_place_25
  refine z_ok_i (fun c234190 => ?_) (fun c234190 => ?_)
  · have z234191 : y_in (z_gI q 13) (-1) (-1) := z_w (z_eq1 c234190 (show y_in (-1 : Int32) (-1) (-1) from ⟨by decide, by decide⟩)) (by decide) (by decide)
    exact t_k_Mo_place_47 W S (t0 + t1) (0 : Int64) q hq hW
  · have z234192 : y_in (z_gI q 13) (0) (15) := z_w (z_ne1 c234190 (iM_f13 hq) (by decide)) (by decide) (by decide)
    refine z_ok_g (z_nbad z234192 (by decide)) ?_
    exact t_k_Mo_place_47 W S (t0 + t1) (z_gM q 0 (z_gI q 13).toNatClampNeg) q hq hW

set_option maxHeartbeats 4000000 in
set_option maxRecDepth 100000 in
theorem t_f_Mo_place (W : Nat) (S : z_SS) (q : z_Sg) (hq : iM W S q) (hW : W + 0 ≤ 16) : z_ok (f_Mo_place q) (fun _ : Int64 => True) := by
  unfold f_Mo_place
  refine z_ok_i (fun c234193 => ?_) (fun c234193 => ?_)
  · have z234194 : y_in (z_gI q 17) (0) (0) := z_w (z_eq1 c234193 (show y_in (0 : Int32) (0) (0) from ⟨by decide, by decide⟩)) (by decide) (by decide)
    exact t_k_Mo_place_25 W S (z_gL q 6) (0 : Int64) q hq hW
  · have z234195 : y_in (z_gI q 17) (1) (1) := z_w (z_ne1 c234193 (iM_f17 hq) (by decide)) (by decide) (by decide)
    exact t_k_Mo_place_25 W S (z_gL q 6) ((z_gL q 0) + (z_gI q 6).toInt64) q hq hW

set_option maxHeartbeats 4000000 in
set_option maxRecDepth 100000 in
theorem t_k_Mo_ofStack_21 (W : Nat) (S : z_SS) (t0 : Int32) (q : z_Sg) (ht0 : y_in t0 (0) (1)) (hq : iM W S q) (hW : W + 0 ≤ 16) : z_ok (k_Mo_ofStack_21 t0 q) (fun o : Int32 => y_in o (0) (1)) := by
  unfold k_Mo_ofStack_21
  refine z_ok_G (z_bi ht0) ?_
  exact z_ok_s ht0

set_option maxHeartbeats 4000000 in
set_option maxRecDepth 100000 in
theorem t_k_Mo_ofStack_16 (W : Nat) (S : z_SS) (q : z_Sg) (hq : iM W S q) (hW : W + 0 ≤ 16) : z_ok (k_Mo_ofStack_16 q) (fun o : Int32 => y_in o (0) (1)) := by
  unfold k_Mo_ofStack_16
  exact t_k_Mo_ofStack_21 W S (1 : Int32) q (z_w (show y_in (1 : Int32) (1) (1) from ⟨by decide, by decide⟩) (by decide) (by decide)) hq hW

set_option maxHeartbeats 4000000 in
set_option maxRecDepth 100000 in
theorem t_f_Mo_ofStack (W : Nat) (S : z_SS) (q : z_Sg) (hq : iM W S q) (hW : W + 0 ≤ 16) : z_ok (f_Mo_ofStack q) (fun o : Int32 => y_in o (0) (1)) := by
  unfold f_Mo_ofStack
  refine z_ok_i (fun c234196 => ?_) (fun c234196 => ?_)
  · have z234197 : y_in (z_gI q 13) (4) (4) := z_w (z_eq1 c234196 (show y_in (4 : Int32) (4) (4) from ⟨by decide, by decide⟩)) (by decide) (by decide)
    exact t_k_Mo_ofStack_16 W S q hq hW
  · refine z_ok_i (fun c234198 => ?_) (fun c234198 => ?_)
    · have z234199 : y_in (z_gI q 13) (5) (5) := z_w (z_eq1 c234198 (show y_in (5 : Int32) (5) (5) from ⟨by decide, by decide⟩)) (by decide) (by decide)
      exact t_k_Mo_ofStack_16 W S q hq hW
    · exact t_k_Mo_ofStack_21 W S (0 : Int32) q (z_w (show y_in (0 : Int32) (0) (0) from ⟨by decide, by decide⟩) (by decide) (by decide)) hq hW

set_option maxHeartbeats 4000000 in
set_option maxRecDepth 100000 in
theorem t_kb_Mo_held_5 (W : Nat) (S : z_SS) (ih5 : Int32 × Int64 × Int32 → Option Int64) (x1 : Int32) (x2 : Int64) (x4 : Int32) (q : z_Sg) (hi5 : ∀ (x1' : Int32) (x2' : Int64) (x4' : Int32), y_in x1' (1) (8) → y_in x4' (0) (8) → (8 - x4'.toInt).toNat < (8 - x4.toInt).toNat → z_ok (ih5 (x1', x2', x4')) (fun _ : Int64 => True)) (hx1 : y_in x1 (1) (8)) (hx4 : y_in x4 (0) (8)) (hq : iM W S q) (hW : W + 0 ≤ 16) : z_ok (kb_Mo_held_5 ih5 x1 x2 x4 q) (fun _ : Int64 => True) := by
  unfold kb_Mo_held_5
  refine z_ok_i (fun c234200 => ?_) (fun c234200 => ?_)
  · have z234201 : y_in x4 (1) (8) := z_w (z_le2 c234200 hx1 hx4) (by decide) (by decide)
    exact z_ok_s trivial
  · have z234202 : y_in x4 (0) (7) := z_w (z_nle2 c234200 hx1 hx4) (by decide) (by decide)
    refine z_ok_g (z_nbad z234202 (by decide)) ?_
    refine z_ok_b (t_f_Mo_byteAt W S (z_gM q 3 x4.toNatClampNeg) q hq (by omega)) (fun r3 hr3 => ?_)
    refine z_ok_n (fun n4 en4 => ?_)
    refine z_ok_n (fun n5 en5 => ?_)
    have hn5 : y_in n5 (1) (8) := z_e en5 (z_w (a' := 1) (b' := 8) (z_add z234202 (show y_in (1 : Int32) (1) (1) from ⟨by decide, by decide⟩) (by decide) (by decide)) (by decide) (by decide))
    exact hi5 x1 n4 n5 hx1 (z_w hn5 (by decide) (by decide)) (z_mu (8) 1 z234202 en5 (by decide) (by decide) (by decide) (by decide))

set_option maxHeartbeats 4000000 in
set_option maxRecDepth 100000 in
theorem t_k_Mo_held_5 (W : Nat) (S : z_SS) (x1 : Int32) (x2 : Int64) (x4 : Int32) (q : z_Sg) (hx1 : y_in x1 (1) (8)) (hx2 : y_il x2 (0) (0)) (hx4 : y_in x4 (0) (0)) (hq : iM W S q) (hW : W + 0 ≤ 16) : z_ok (k_Mo_held_5 x1 x2 x4 q) (fun _ : Int64 => True) := by
  unfold k_Mo_held_5
  refine z_ok_l (fun a : Int32 × Int64 × Int32 => y_in a.1 (1) (8) ∧ y_in a.2.2 (0) (8)) (fun a => (8 - a.2.2.toInt).toNat) ?_ (x1, x2, x4) ⟨hx1, (z_w hx4 (by decide) (by decide))⟩ (by show ((8 - x4.toInt).toNat) < 2000; have z1 := hx4.1; have z2 := hx4.2; omega)
  intro ih a ha hih
  exact t_kb_Mo_held_5 W S ih a.1 a.2.1 a.2.2 q (fun x1' x2' x4' hx1' hx4' hm => hih (x1', x2', x4') ⟨hx1', hx4'⟩ hm) ha.1 ha.2 hq hW

set_option maxHeartbeats 4000000 in
set_option maxRecDepth 100000 in
theorem t_f_Mo_held (W : Nat) (S : z_SS) (x1 : Int32) (q : z_Sg) (hx1 : y_in x1 (1) (8)) (hq : iM W S q) (hW : W + 0 ≤ 16) : z_ok (f_Mo_held x1 q) (fun _ : Int64 => True) := by
  unfold f_Mo_held
  exact t_k_Mo_held_5 W S x1 (0 : Int64) (0 : Int32) q hx1 (show y_il (0 : Int64) (0) (0) from ⟨by decide, by decide⟩) (show y_in (0 : Int32) (0) (0) from ⟨by decide, by decide⟩) hq hW

set_option maxHeartbeats 4000000 in
set_option maxRecDepth 100000 in
theorem t_k_Mo_isHigh_28 (W : Nat) (S : z_SS) (t0 : Int32) (q : z_Sg) (ht0 : y_in t0 (0) (1)) (hq : iM W S q) (hW : W + 0 ≤ 16) : z_ok (k_Mo_isHigh_28 t0 q) (fun o : Int32 => y_in o (0) (1)) := by
  unfold k_Mo_isHigh_28
  refine z_ok_G (z_bi ht0) ?_
  exact z_ok_s ht0

set_option maxHeartbeats 4000000 in
set_option maxRecDepth 100000 in
theorem t_k_Mo_isHigh_27 (W : Nat) (S : z_SS) (q : z_Sg) (hq : iM W S q) (hW : W + 0 ≤ 16) : z_ok (k_Mo_isHigh_27 q) (fun o : Int32 => y_in o (0) (1)) := by
  unfold k_Mo_isHigh_27
  exact t_k_Mo_isHigh_28 W S (0 : Int32) q (z_w (show y_in (0 : Int32) (0) (0) from ⟨by decide, by decide⟩) (by decide) (by decide)) hq hW

set_option maxHeartbeats 4000000 in
set_option maxRecDepth 100000 in
theorem t_f_Mo_isHigh (W : Nat) (S : z_SS) (x1 : Int32) (x2 : Int32) (q : z_Sg) (hx1 : y_in x1 (0) (15)) (hx2 : y_in x2 (1) (8)) (hq : iM W S q) (hW : W + 0 ≤ 16) : z_ok (f_Mo_isHigh x1 x2 q) (fun o : Int32 => y_in o (0) (1)) := by
  unfold f_Mo_isHigh
  refine z_ok_i (fun c234203 => ?_) (fun c234203 => ?_)
  · have z234204 : y_in x2 (1) (1) := z_w (z_eq1 c234203 (show y_in (1 : Int32) (1) (1) from ⟨by decide, by decide⟩)) (by decide) (by decide)
    refine z_ok_i (fun c234205 => ?_) (fun c234205 => ?_)
    · have z234206 : y_in (z_gI q 10) (0) (0) := z_w (z_eq1 c234205 (show y_in (0 : Int32) (0) (0) from ⟨by decide, by decide⟩)) (by decide) (by decide)
      refine z_ok_i (fun c234207 => ?_) (fun c234207 => ?_)
      · have z234208 : y_in x1 (0) (3) := z_w (z_lt1 c234207 hx1 (show y_in (4 : Int32) (4) (4) from ⟨by decide, by decide⟩)) (by decide) (by decide)
        exact t_k_Mo_isHigh_27 W S q hq hW
      · have z234209 : y_in x1 (4) (15) := z_w (z_nlt1 c234207 hx1 (show y_in (4 : Int32) (4) (4) from ⟨by decide, by decide⟩)) (by decide) (by decide)
        refine z_ok_i (fun c234210 => ?_) (fun c234210 => ?_)
        · have z234211 : y_in x1 (8) (15) := z_w (z_le2 c234210 (show y_in (8 : Int32) (8) (8) from ⟨by decide, by decide⟩) z234209) (by decide) (by decide)
          exact t_k_Mo_isHigh_27 W S q hq hW
        · have z234212 : y_in x1 (4) (7) := z_w (z_nle2 c234210 (show y_in (8 : Int32) (8) (8) from ⟨by decide, by decide⟩) z234209) (by decide) (by decide)
          exact t_k_Mo_isHigh_28 W S (1 : Int32) q (z_w (show y_in (1 : Int32) (1) (1) from ⟨by decide, by decide⟩) (by decide) (by decide)) hq hW
    · have z234213 : y_in (z_gI q 10) (1) (79) := z_w (z_ne1 c234205 (iM_f10 hq) (by decide)) (by decide) (by decide)
      exact t_k_Mo_isHigh_27 W S q hq hW
  · have z234214 : y_in x2 (2) (8) := z_w (z_ne1 c234203 hx2 (by decide)) (by decide) (by decide)
    exact t_k_Mo_isHigh_27 W S q hq hW


theorem t_high (x1 x2 : Int32) (q : z_Sg) : z_ok (f_Mo_isHigh x1 x2 q) (fun o : Int32 => y_in o 0 1 ∧ (¬ o = 0 → y_in x1 4 7)) := by
  unfold f_Mo_isHigh k_Mo_isHigh_27 k_Mo_isHigh_28
  have z : z_ok (z_gd (z_bo (0 : Int32)) (some (0 : Int32))) (fun o : Int32 => y_in o 0 1 ∧ (¬ o = 0 → y_in x1 4 7)) := z_ok_G (Or.inl rfl) (z_ok_s ⟨⟨by decide, by decide⟩, fun h => absurd rfl h⟩)
  refine z_ok_i (fun c1 => ?_) (fun c1 => z)
  refine z_ok_i (fun c2 => ?_) (fun c2 => z)
  refine z_ok_i (fun c3 => z) (fun c3 => ?_)
  refine z_ok_i (fun c4 => z) (fun c4 => ?_)
  refine z_ok_G (Or.inr rfl) (z_ok_s ⟨⟨by decide, by decide⟩, fun _ => ?_⟩)
  have h1 := (z_nlt1 c3 (z_full x1) (show y_in (4 : Int32) (4) (4) from ⟨by decide, by decide⟩)).1
  have h2 := (z_nle2 c4 (show y_in (8 : Int32) (8) (8) from ⟨by decide, by decide⟩) (z_full x1)).2
  exact ⟨by omega, by omega⟩
set_option maxHeartbeats 4000000 in
set_option maxRecDepth 100000 in
theorem t_f_Mo_get8 (W : Nat) (S : z_SS) (x1 : Int32) (x2 : Int32) (q : z_Sg) (hx1 : y_in x1 (0) (15)) (hx2 : y_in x2 (1) (8)) (hq : iM W S q) (hW : W + 0 ≤ 16) : z_ok (f_Mo_get8 x1 x2 q) (fun _ : Int64 => True) := by
  unfold f_Mo_get8 k_Mo_get8_37
  refine z_ok_b (t_high x1 x2 q) (fun r1 hr1 => ?_)
  refine z_ok_i (fun c => ?_) (fun c => ?_)
  · refine z_ok_g (z_nbad hx1 (by decide)) ?_
    exact z_ok_b (t_f_Mo_lowest W S _ x2 q hx2 hq (by omega)) (fun r4 _ => z_ok_s trivial)
  · refine z_ok_g (z_nbad (z_w (a' := 0) (b' := 3) (z_sub (hr1.2 c) (show y_in (4 : Int32) (4) (4) from ⟨by decide, by decide⟩) (by decide) (by decide)) (by decide) (by decide)) (by decide)) ?_
    exact z_ok_s trivial


set_option maxHeartbeats 4000000 in
set_option maxRecDepth 100000 in
theorem t_f_Mo_e (W : Nat) (S : z_SS) (x1 : Int32) (x2 : Int32) (q : z_Sg) (hx1 : y_in x1 (1) (8)) (hx2 : y_in x2 (0) (1)) (hq : iM W S q) (hW : W + 0 ≤ 16) : z_ok (f_Mo_e x1 x2 q) (fun o : Int64 × z_Sg => iM W (x1, true, S.2.2) o.2) := by
  unfold f_Mo_e k_Mo_e_55
  refine z_ok_i (fun c => ?_) (fun c => ?_)
  · refine z_ok_b (t_f_Mo_plus W S 1 q (z_w (show y_in (1 : Int32) (1) (1) from ⟨by decide, by decide⟩) (by decide) (by decide)) hq (by omega)) (fun r7 hr7 => ?_)
    refine z_ok_b (t_f_Mo_get8 W S (z_gI q 9 + r7) x1 q (z_w (a' := 0) (b' := 15) (z_add (iM_f9 hq) hr7 (by decide) (by decide)) (by decide) (by decide)) hx1 hq (by omega)) (fun r8 _ => ?_)
    exact z_ok_s (iM_S hq ⟨Or.inl ⟨rfl, c⟩, (iM_k hq).2⟩)
  · refine z_ok_b (t_f_Mo_place W S q hq (by omega)) (fun r2 _ => ?_)
    refine z_ok_b (t_f_Mo_ofStack W S q hq (by omega)) (fun r3 hr3 => ?_)
    refine z_ok_b (t_f_Mo_lookUp W S r2 x1 x2 r3 q hx1 (z_w hx2 (by decide) (by decide)) hr3 hq (by omega)) (fun r4 hr4 => ?_)
    have h4 : iM W (x1, true, S.2.2) r4 := iM_S hr4.1.1 ⟨by
      by_cases hc : z_gI r4 4 = -1
      · exact Or.inr (Or.inr (hr4.1.2 hc))
      · exact Or.inr (Or.inl hc), (iM_k hr4.1.1).2⟩
    refine z_ok_i (fun c2 => ?_) (fun c2 => z_ok_s h4)
    exact z_ok_b (t_f_Mo_held W S x1 r4 hx1 hr4.1.1 (by omega)) (fun r6 _ => z_ok_s h4)

set_option maxHeartbeats 4000000 in
set_option maxRecDepth 100000 in
theorem t_k_Mo_top_20 (W : Nat) (S : z_SS) (t0 : Int32) (q : z_Sg) (ht0 : y_in t0 (0) (1)) (hq : iM W S q) (hW : W + 0 ≤ 16) : z_ok (k_Mo_top_20 t0 q) (fun o : Int32 => y_in o (0) (1)) := by
  unfold k_Mo_top_20
  refine z_ok_G (z_bi ht0) ?_
  exact z_ok_s ht0

set_option maxHeartbeats 4000000 in
set_option maxRecDepth 100000 in
theorem t_f_Mo_top (W : Nat) (S : z_SS) (x0 : Int64) (x2 : Int32) (q : z_Sg) (hx2 : y_in x2 (1) (8)) (hq : iM W S q) (hW : W + 0 ≤ 16) : z_ok (f_Mo_top x0 x2 q) (fun o : Int32 => y_in o (0) (1)) := by
  unfold f_Mo_top
  refine z_ok_i (fun c234215 => ?_) (fun c234215 => ?_)
  · exact t_k_Mo_top_20 W S (1 : Int32) q (z_w (show y_in (1 : Int32) (1) (1) from ⟨by decide, by decide⟩) (by decide) (by decide)) hq hW
  · exact t_k_Mo_top_20 W S (0 : Int32) q (z_w (show y_in (0 : Int32) (0) (0) from ⟨by decide, by decide⟩) (by decide) (by decide)) hq hW

set_option maxHeartbeats 4000000 in
set_option maxRecDepth 100000 in
theorem t_k_Mo_result_111 (W : Nat) (S : z_SS) (t1 : Int32) (t2 : Int32) (q : z_Sg) (ht1 : y_in t1 (1) (1)) (ht2 : y_in t2 (0) (1)) (hq : iM W S q) (hW : W + 0 ≤ 16) : z_ok (k_Mo_result_111 t1 t2 q) (fun o : z_Sg => iM W S o) := by
  unfold k_Mo_result_111
  refine z_ok_g (z_nbad (z_w ht1 (by decide) (Int.le_refl _)) (by decide)) ?_
  refine z_ok_n (fun q10 eq10 => ?_)
  have hq10 : iM W S q10 := by rw [eq10]; exact (iM_sN1 hq)
  exact z_ok_s hq10

set_option maxHeartbeats 4000000 in
set_option maxRecDepth 100000 in
theorem t_kb_Mo_result_50 (W : Nat) (S : z_SS) (ih50 : Int64 × Int32 × Int32 × Int32 × Int32 × z_Sg → Option z_Sg) (x1 : Int64) (x3 : Int32) (x4 : Int32) (x5 : Int32) (x6 : Int32) (q : z_Sg) (hi50 : ∀ (x1' : Int64) (x3' : Int32) (x4' : Int32) (x5' : Int32) (x6' : Int32) (q' : z_Sg), y_in x3' (1) (8) → y_in x4' (0) (1) → y_in x6' (0) (8) → iM W S q' → (8 - x6'.toInt).toNat < (8 - x6.toInt).toNat → z_ok (ih50 (x1', x3', x4', x5', x6', q')) (fun o : z_Sg => iM W S o)) (hx3 : y_in x3 (1) (8)) (hx4 : y_in x4 (0) (1)) (hx6 : y_in x6 (0) (8)) (hq : iM W S q) (hW : W + 0 ≤ 16) : z_ok (kb_Mo_result_50 ih50 x1 x3 x4 x5 x6 q) (fun o : z_Sg => iM W S o) := by
  unfold kb_Mo_result_50
  refine z_ok_i (fun c234216 => ?_) (fun c234216 => ?_)
  · have z234217 : y_in x6 (8) (8) := z_w (z_le2 c234216 (show y_in (8 : Int32) (8) (8) from ⟨by decide, by decide⟩) hx6) (by decide) (by decide)
    refine z_ok_g (z_nbad (z_w (show y_in (3 : Int32) (3) (3) from ⟨by decide, by decide⟩) (by decide) (Int.le_refl _)) (by decide)) ?_
    refine z_ok_n (fun q4 eq4 => ?_)
    have hq4 : iM W S q4 := by rw [eq4]; exact (iM_sN1 hq)
    refine z_ok_b (t_f_Mo_top W S x1 x3 q4 hx3 hq4 (by omega)) (fun r5 hr5 => ?_)
    refine z_ok_g (z_nbad (z_w (show y_in (4 : Int32) (4) (4) from ⟨by decide, by decide⟩) (by decide) (Int.le_refl _)) (by decide)) ?_
    refine z_ok_n (fun q7 eq7 => ?_)
    have hq7 : iM W S q7 := by rw [eq7]; exact (iM_sN1 hq4)
    refine z_ok_i (fun c234218 => ?_) (fun c234218 => ?_)
    · have z234219 : y_in (x5 - ((x5 / (2 : Int32)) * (2 : Int32))) (0) (0) := z_w (z_eq1 c234218 (show y_in (0 : Int32) (0) (0) from ⟨by decide, by decide⟩)) (by decide) (by decide)
      exact t_k_Mo_result_111 W S (1 : Int32) (1 : Int32) q7 (show y_in (1 : Int32) (1) (1) from ⟨by decide, by decide⟩) (z_w (show y_in (1 : Int32) (1) (1) from ⟨by decide, by decide⟩) (by decide) (by decide)) hq7 hW
    · exact t_k_Mo_result_111 W S (1 : Int32) (0 : Int32) q7 (show y_in (1 : Int32) (1) (1) from ⟨by decide, by decide⟩) (z_w (show y_in (0 : Int32) (0) (0) from ⟨by decide, by decide⟩) (by decide) (by decide)) hq7 hW
  · have z234220 : y_in x6 (0) (7) := z_w (z_nle2 c234216 (show y_in (8 : Int32) (8) (8) from ⟨by decide, by decide⟩) hx6) (by decide) (by decide)
    refine z_ok_n (fun n11 en11 => ?_)
    refine z_ok_n (fun n12 en12 => ?_)
    have hn12 : y_in n12 (1) (8) := z_e en12 (z_w (a' := 1) (b' := 8) (z_add z234220 (show y_in (1 : Int32) (1) (1) from ⟨by decide, by decide⟩) (by decide) (by decide)) (by decide) (by decide))
    exact hi50 x1 x3 x4 n11 n12 q hx3 hx4 (z_w hn12 (by decide) (by decide)) hq (z_mu (8) 1 z234220 en12 (by decide) (by decide) (by decide) (by decide))

set_option maxHeartbeats 4000000 in
set_option maxRecDepth 100000 in
theorem t_k_Mo_result_50 (W : Nat) (S : z_SS) (x1 : Int64) (x3 : Int32) (x4 : Int32) (x5 : Int32) (x6 : Int32) (q : z_Sg) (hx3 : y_in x3 (1) (8)) (hx4 : y_in x4 (0) (1)) (hx5 : y_in x5 (0) (0)) (hx6 : y_in x6 (0) (0)) (hq : iM W S q) (hW : W + 0 ≤ 16) : z_ok (k_Mo_result_50 x1 x3 x4 x5 x6 q) (fun o : z_Sg => iM W S o) := by
  unfold k_Mo_result_50
  refine z_ok_l (fun a : Int64 × Int32 × Int32 × Int32 × Int32 × z_Sg => y_in a.2.1 (1) (8) ∧ y_in a.2.2.1 (0) (1) ∧ y_in a.2.2.2.2.1 (0) (8) ∧ iM W S a.2.2.2.2.2) (fun a => (8 - a.2.2.2.2.1.toInt).toNat) ?_ (x1, x3, x4, x5, x6, q) ⟨hx3, hx4, (z_w hx6 (by decide) (by decide)), hq⟩ (by show ((8 - x6.toInt).toNat) < 2000; have z1 := hx6.1; have z2 := hx6.2; omega)
  intro ih a ha hih
  exact t_kb_Mo_result_50 W S ih a.1 a.2.1 a.2.2.1 a.2.2.2.1 a.2.2.2.2.1 a.2.2.2.2.2 (fun x1' x3' x4' x5' x6' q' hx3' hx4' hx6' hq' hm => hih (x1', x3', x4', x5', x6', q') ⟨hx3', hx4', hx6', hq'⟩ hm) ha.1 ha.2.1 ha.2.2.1 ha.2.2.2 hW

set_option maxHeartbeats 4000000 in
set_option maxRecDepth 100000 in
theorem t_k_Mo_result_39 (W : Nat) (S : z_SS) (ih9 : Int64 × Int32 × Int32 × Int32 × Int32 × z_Sg → Option z_Sg) (x1 : Int64) (x3 : Int32) (x5 : Int32) (x6 : Int32) (t0 : Int32) (q : z_Sg) (hi9 : ∀ (x1' : Int64) (x3' : Int32) (x4' : Int32) (x5' : Int32) (x6' : Int32) (q' : z_Sg), y_in x3' (1) (8) → y_in x4' (0) (1) → y_in x5' (0) (0) → y_in x6' (0) (64) → iM W S q' → (64 - x6'.toInt).toNat < (64 - x6.toInt).toNat → z_ok (ih9 (x1', x3', x4', x5', x6', q')) (fun o : z_Sg => iM W S o)) (hx3 : y_in x3 (1) (8)) (hx5 : y_in x5 (0) (0)) (hx6 : y_in x6 (0) (63)) (ht0 : y_in t0 (0) (1)) (hq : iM W S q) (hW : W + 0 ≤ 16) : z_ok (k_Mo_result_39 ih9 x1 x3 x5 x6 t0 q) (fun o : z_Sg => iM W S o) := by
  unfold k_Mo_result_39
  refine z_ok_n (fun n14 en14 => ?_)
  have hn14 : y_in n14 (1) (64) := z_e en14 (z_w (a' := 1) (b' := 64) (z_add hx6 (show y_in (1 : Int32) (1) (1) from ⟨by decide, by decide⟩) (by decide) (by decide)) (by decide) (by decide))
  exact hi9 x1 x3 t0 x5 n14 q hx3 ht0 hx5 (z_w hn14 (by decide) (by decide)) hq (z_mu (64) 1 hx6 en14 (by decide) (by decide) (by decide) (by decide))

set_option maxHeartbeats 4000000 in
set_option maxRecDepth 100000 in
theorem t_k_Mo_result_38 (W : Nat) (S : z_SS) (ih9 : Int64 × Int32 × Int32 × Int32 × Int32 × z_Sg → Option z_Sg) (x1 : Int64) (x3 : Int32) (x5 : Int32) (x6 : Int32) (q : z_Sg) (hi9 : ∀ (x1' : Int64) (x3' : Int32) (x4' : Int32) (x5' : Int32) (x6' : Int32) (q' : z_Sg), y_in x3' (1) (8) → y_in x4' (0) (1) → y_in x5' (0) (0) → y_in x6' (0) (64) → iM W S q' → (64 - x6'.toInt).toNat < (64 - x6.toInt).toNat → z_ok (ih9 (x1', x3', x4', x5', x6', q')) (fun o : z_Sg => iM W S o)) (hx3 : y_in x3 (1) (8)) (hx5 : y_in x5 (0) (0)) (hx6 : y_in x6 (0) (63)) (hq : iM W S q) (hW : W + 0 ≤ 16) : z_ok (k_Mo_result_38 ih9 x1 x3 x5 x6 q) (fun o : z_Sg => iM W S o) := by
  unfold k_Mo_result_38
  exact t_k_Mo_result_39 W S ih9 x1 x3 x5 x6 (0 : Int32) q hi9 hx3 hx5 hx6 (z_w (show y_in (0 : Int32) (0) (0) from ⟨by decide, by decide⟩) (by decide) (by decide)) hq hW

set_option maxHeartbeats 4000000 in
set_option maxRecDepth 100000 in
theorem t_kb_Mo_result_9 (W : Nat) (S : z_SS) (ih9 : Int64 × Int32 × Int32 × Int32 × Int32 × z_Sg → Option z_Sg) (x1 : Int64) (x3 : Int32) (x4 : Int32) (x5 : Int32) (x6 : Int32) (q : z_Sg) (hi9 : ∀ (x1' : Int64) (x3' : Int32) (x4' : Int32) (x5' : Int32) (x6' : Int32) (q' : z_Sg), y_in x3' (1) (8) → y_in x4' (0) (1) → y_in x5' (0) (0) → y_in x6' (0) (64) → iM W S q' → (64 - x6'.toInt).toNat < (64 - x6.toInt).toNat → z_ok (ih9 (x1', x3', x4', x5', x6', q')) (fun o : z_Sg => iM W S o)) (hx3 : y_in x3 (1) (8)) (hx4 : y_in x4 (0) (1)) (hx5 : y_in x5 (0) (0)) (hx6 : y_in x6 (0) (64)) (hq : iM W S q) (hW : W + 0 ≤ 16) : z_ok (kb_Mo_result_9 ih9 x1 x3 x4 x5 x6 q) (fun o : z_Sg => iM W S o) := by
  unfold kb_Mo_result_9
  refine z_ok_i (fun c234221 => ?_) (fun c234221 => ?_)
  · have z234222 : y_in x6 (8) (64) := z_w (z_le2 c234221 (z_w (a' := 8) (b' := 64) (z_mul (show y_in (8 : Int32) (8) (8) from ⟨by decide, by decide⟩) hx3 (by decide) (by decide) (by decide)) (by decide) (by decide)) hx6) (by decide) (by decide)
    exact t_k_Mo_result_50 W S x1 x3 x4 x5 (0 : Int32) q hx3 hx4 hx5 (show y_in (0 : Int32) (0) (0) from ⟨by decide, by decide⟩) hq hW
  · have z234223 : y_in x6 (0) (63) := z_w (z_nle2 c234221 (z_w (a' := 8) (b' := 64) (z_mul (show y_in (8 : Int32) (8) (8) from ⟨by decide, by decide⟩) hx3 (by decide) (by decide) (by decide)) (by decide) (by decide)) hx6) (by decide) (by decide)
    refine z_ok_i (fun c234224 => ?_) (fun c234224 => ?_)
    · have z234225 : y_in x4 (0) (0) := z_w (z_eq1 c234224 (show y_in (0 : Int32) (0) (0) from ⟨by decide, by decide⟩)) (by decide) (by decide)
      exact t_k_Mo_result_38 W S ih9 x1 x3 x5 x6 q hi9 hx3 hx5 z234223 hq hW
    · have z234226 : y_in x4 (1) (1) := z_w (z_ne1 c234224 hx4 (by decide)) (by decide) (by decide)
      refine z_ok_i (fun c234227 => ?_) (fun c234227 => ?_)
      · exact t_k_Mo_result_39 W S ih9 x1 x3 x5 x6 (1 : Int32) q hi9 hx3 hx5 z234223 (z_w (show y_in (1 : Int32) (1) (1) from ⟨by decide, by decide⟩) (by decide) (by decide)) hq hW
      · exact t_k_Mo_result_38 W S ih9 x1 x3 x5 x6 q hi9 hx3 hx5 z234223 hq hW

set_option maxHeartbeats 4000000 in
set_option maxRecDepth 100000 in
theorem t_k_Mo_result_9 (W : Nat) (S : z_SS) (x1 : Int64) (x3 : Int32) (x4 : Int32) (x5 : Int32) (x6 : Int32) (q : z_Sg) (hx3 : y_in x3 (1) (8)) (hx4 : y_in x4 (1) (1)) (hx5 : y_in x5 (0) (0)) (hx6 : y_in x6 (0) (0)) (hq : iM W S q) (hW : W + 0 ≤ 16) : z_ok (k_Mo_result_9 x1 x3 x4 x5 x6 q) (fun o : z_Sg => iM W S o) := by
  unfold k_Mo_result_9
  refine z_ok_l (fun a : Int64 × Int32 × Int32 × Int32 × Int32 × z_Sg => y_in a.2.1 (1) (8) ∧ y_in a.2.2.1 (0) (1) ∧ y_in a.2.2.2.1 (0) (0) ∧ y_in a.2.2.2.2.1 (0) (64) ∧ iM W S a.2.2.2.2.2) (fun a => (64 - a.2.2.2.2.1.toInt).toNat) ?_ (x1, x3, x4, x5, x6, q) ⟨hx3, (z_w hx4 (by decide) (by decide)), hx5, (z_w hx6 (by decide) (by decide)), hq⟩ (by show ((64 - x6.toInt).toNat) < 2000; have z1 := hx6.1; have z2 := hx6.2; omega)
  intro ih a ha hih
  exact t_kb_Mo_result_9 W S ih a.1 a.2.1 a.2.2.1 a.2.2.2.1 a.2.2.2.2.1 a.2.2.2.2.2 (fun x1' x3' x4' x5' x6' q' hx3' hx4' hx5' hx6' hq' hm => hih (x1', x3', x4', x5', x6', q') ⟨hx3', hx4', hx5', hx6', hq'⟩ hm) ha.1 ha.2.1 ha.2.2.1 ha.2.2.2.1 ha.2.2.2.2 hW

set_option maxHeartbeats 4000000 in
set_option maxRecDepth 100000 in
theorem t_f_Mo_result (W : Nat) (S : z_SS) (x1 : Int64) (x3 : Int32) (q : z_Sg) (hx3 : y_in x3 (1) (8)) (hq : iM W S q) (hW : W + 0 ≤ 16) : z_ok (f_Mo_result x1 x3 q) (fun o : z_Sg => iM W S o) := by
  unfold f_Mo_result
  exact t_k_Mo_result_9 W S x1 x3 (1 : Int32) (0 : Int32) (0 : Int32) q hx3 (show y_in (1 : Int32) (1) (1) from ⟨by decide, by decide⟩) (show y_in (0 : Int32) (0) (0) from ⟨by decide, by decide⟩) (show y_in (0 : Int32) (0) (0) from ⟨by decide, by decide⟩) hq hW

set_option maxHeartbeats 4000000 in
set_option maxRecDepth 100000 in
theorem t_k_Mo_add_184 (W : Nat) (S : z_SS) (x7 : Int32) (x8 : Int64) (t1 : Int32) (t2 : Int32) (q : z_Sg) (hx7 : y_in x7 (1) (8)) (ht1 : y_in t1 (6) (6)) (ht2 : y_in t2 (0) (1)) (hq : iM W S q) (hW : W + 0 ≤ 16) : z_ok (k_Mo_add_184 x7 x8 t1 t2 q) (fun o : Int64 × z_Sg => iM W S o.2) := by
  unfold k_Mo_add_184
  refine z_ok_g (z_nbad (z_w ht1 (by decide) (Int.le_refl _)) (by decide)) ?_
  refine z_ok_n (fun q8 eq8 => ?_)
  have hq8 : iM W S q8 := by rw [eq8]; exact (iM_sN1 hq)
  refine z_ok_b (t_f_Mo_result W S x8 x7 q8 hx7 hq8 (by omega)) (fun r9 hr9 => ?_)
  exact z_ok_s hr9

set_option maxHeartbeats 4000000 in
set_option maxRecDepth 100000 in
theorem t_k_Mo_add_165 (W : Nat) (S : z_SS) (x7 : Int32) (x8 : Int64) (x10 : Int32) (x11 : Int32) (t1 : Int32) (t2 : Int32) (q : z_Sg) (hx7 : y_in x7 (1) (8)) (ht1 : y_in t1 (0) (0)) (ht2 : y_in t2 (0) (1)) (hq : iM W S q) (hW : W + 0 ≤ 16) : z_ok (k_Mo_add_165 x7 x8 x10 x11 t1 t2 q) (fun o : Int64 × z_Sg => iM W S o.2) := by
  unfold k_Mo_add_165
  refine z_ok_g (z_nbad ht1 (by decide)) ?_
  refine z_ok_n (fun q5 eq5 => ?_)
  have hq5 : iM W S q5 := by rw [eq5]; exact (iM_sN1 hq)
  refine z_ok_i (fun c234228 => ?_) (fun c234228 => ?_)
  · exact t_k_Mo_add_184 W S x7 x8 (6 : Int32) (0 : Int32) q5 hx7 (show y_in (6 : Int32) (6) (6) from ⟨by decide, by decide⟩) (z_w (show y_in (0 : Int32) (0) (0) from ⟨by decide, by decide⟩) (by decide) (by decide)) hq5 hW
  · exact t_k_Mo_add_184 W S x7 x8 (6 : Int32) (1 : Int32) q5 hx7 (show y_in (6 : Int32) (6) (6) from ⟨by decide, by decide⟩) (z_w (show y_in (1 : Int32) (1) (1) from ⟨by decide, by decide⟩) (by decide) (by decide)) hq5 hW

set_option maxHeartbeats 4000000 in
set_option maxRecDepth 100000 in
theorem t_k_Mo_add_143 (W : Nat) (S : z_SS) (ih21 : Int64 × Int64 × Int32 × Int32 × Int64 × Int32 × Int32 × Int32 × z_Sg → Option (Int64 × z_Sg)) (x1 : Int64) (x3 : Int64) (x6 : Int32) (x7 : Int32) (x8 : Int64) (x10 : Int32) (x11 : Int32) (x12 : Int32) (q : z_Sg) (hi21 : ∀ (x1' : Int64) (x3' : Int64) (x6' : Int32) (x7' : Int32) (x8' : Int64) (x10' : Int32) (x11' : Int32) (x12' : Int32) (q' : z_Sg), y_in x6' (0) (1) → y_in x7' (1) (8) → y_in x12' (0) (64) → iM W S q' → (64 - x12'.toInt).toNat < (64 - x12.toInt).toNat → z_ok (ih21 (x1', x3', x6', x7', x8', x10', x11', x12', q')) (fun o : Int64 × z_Sg => iM W S o.2)) (hx6 : y_in x6 (0) (1)) (hx7 : y_in x7 (1) (8)) (hx12 : y_in x12 (0) (63)) (hq : iM W S q) (hW : W + 0 ≤ 16) : z_ok (k_Mo_add_143 ih21 x1 x3 x6 x7 x8 x10 x11 x12 q) (fun o : Int64 × z_Sg => iM W S o.2) := by
  unfold k_Mo_add_143
  refine z_ok_n (fun n16 en16 => ?_)
  have hn16 : y_in n16 (1) (64) := z_e en16 (z_w (a' := 1) (b' := 64) (z_add hx12 (show y_in (1 : Int32) (1) (1) from ⟨by decide, by decide⟩) (by decide) (by decide)) (by decide) (by decide))
  exact hi21 x1 x3 x6 x7 x8 x10 x11 n16 q hx6 hx7 (z_w hn16 (by decide) (by decide)) hq (z_mu (64) 1 hx12 en16 (by decide) (by decide) (by decide) (by decide))

set_option maxHeartbeats 4000000 in
set_option maxRecDepth 100000 in
theorem t_k_Mo_add_142 (W : Nat) (S : z_SS) (ih21 : Int64 × Int64 × Int32 × Int32 × Int64 × Int32 × Int32 × Int32 × z_Sg → Option (Int64 × z_Sg)) (x1 : Int64) (x3 : Int64) (x6 : Int32) (x7 : Int32) (x8 : Int64) (x10 : Int32) (x11 : Int32) (x12 : Int32) (t1 : Int32) (t2 : Int32) (q : z_Sg) (hi21 : ∀ (x1' : Int64) (x3' : Int64) (x6' : Int32) (x7' : Int32) (x8' : Int64) (x10' : Int32) (x11' : Int32) (x12' : Int32) (q' : z_Sg), y_in x6' (0) (1) → y_in x7' (1) (8) → y_in x12' (0) (64) → iM W S q' → (64 - x12'.toInt).toNat < (64 - x12.toInt).toNat → z_ok (ih21 (x1', x3', x6', x7', x8', x10', x11', x12', q')) (fun o : Int64 × z_Sg => iM W S o.2)) (hx6 : y_in x6 (0) (1)) (hx7 : y_in x7 (1) (8)) (hx12 : y_in x12 (3) (3)) (ht1 : y_in t1 (2) (2)) (ht2 : y_in t2 (0) (1)) (hq : iM W S q) (hW : W + 0 ≤ 16) : z_ok (k_Mo_add_142 ih21 x1 x3 x6 x7 x8 x10 x11 x12 t1 t2 q) (fun o : Int64 × z_Sg => iM W S o.2) := by
  unfold k_Mo_add_142
  refine z_ok_g (z_nbad (z_w ht1 (by decide) (Int.le_refl _)) (by decide)) ?_
  refine z_ok_n (fun q19 eq19 => ?_)
  have hq19 : iM W S q19 := by rw [eq19]; exact (iM_sN1 hq)
  exact t_k_Mo_add_143 W S ih21 x1 x3 x6 x7 x8 x10 x11 x12 q19 hi21 hx6 hx7 (z_w hx12 (by decide) (by decide)) hq19 hW

set_option maxHeartbeats 4000000 in
set_option maxRecDepth 100000 in
theorem t_k_Mo_add_120 (W : Nat) (S : z_SS) (ih21 : Int64 × Int64 × Int32 × Int32 × Int64 × Int32 × Int32 × Int32 × z_Sg → Option (Int64 × z_Sg)) (x1 : Int64) (x3 : Int64) (x6 : Int32) (x7 : Int32) (x8 : Int64) (x10 : Int32) (x11 : Int32) (x12 : Int32) (q : z_Sg) (hi21 : ∀ (x1' : Int64) (x3' : Int64) (x6' : Int32) (x7' : Int32) (x8' : Int64) (x10' : Int32) (x11' : Int32) (x12' : Int32) (q' : z_Sg), y_in x6' (0) (1) → y_in x7' (1) (8) → y_in x12' (0) (64) → iM W S q' → (64 - x12'.toInt).toNat < (64 - x12.toInt).toNat → z_ok (ih21 (x1', x3', x6', x7', x8', x10', x11', x12', q')) (fun o : Int64 × z_Sg => iM W S o.2)) (hx6 : y_in x6 (0) (1)) (hx7 : y_in x7 (1) (8)) (hx12 : y_in x12 (0) (63)) (hq : iM W S q) (hW : W + 0 ≤ 16) : z_ok (k_Mo_add_120 ih21 x1 x3 x6 x7 x8 x10 x11 x12 q) (fun o : Int64 × z_Sg => iM W S o.2) := by
  unfold k_Mo_add_120
  refine z_ok_i (fun c234229 => ?_) (fun c234229 => ?_)
  · have z234230 : y_in x12 (3) (3) := z_w (z_eq1 c234229 (show y_in (3 : Int32) (3) (3) from ⟨by decide, by decide⟩)) (by decide) (by decide)
    refine z_ok_i (fun c234231 => ?_) (fun c234231 => ?_)
    · have z234232 : y_in x10 (1) (1) := z_w (z_eq1 c234231 (show y_in (1 : Int32) (1) (1) from ⟨by decide, by decide⟩)) (by decide) (by decide)
      exact t_k_Mo_add_142 W S ih21 x1 x3 x6 x7 x8 x10 x11 x12 (2 : Int32) (1 : Int32) q hi21 hx6 hx7 z234230 (show y_in (2 : Int32) (2) (2) from ⟨by decide, by decide⟩) (z_w (show y_in (1 : Int32) (1) (1) from ⟨by decide, by decide⟩) (by decide) (by decide)) hq hW
    · exact t_k_Mo_add_142 W S ih21 x1 x3 x6 x7 x8 x10 x11 x12 (2 : Int32) (0 : Int32) q hi21 hx6 hx7 z234230 (show y_in (2 : Int32) (2) (2) from ⟨by decide, by decide⟩) (z_w (show y_in (0 : Int32) (0) (0) from ⟨by decide, by decide⟩) (by decide) (by decide)) hq hW
  · exact t_k_Mo_add_143 W S ih21 x1 x3 x6 x7 x8 x10 x11 x12 q hi21 hx6 hx7 hx12 hq hW

set_option maxHeartbeats 4000000 in
set_option maxRecDepth 100000 in
theorem t_k_Mo_add_101 (W : Nat) (S : z_SS) (ih21 : Int64 × Int64 × Int32 × Int32 × Int64 × Int32 × Int32 × Int32 × z_Sg → Option (Int64 × z_Sg)) (x1 : Int64) (x3 : Int64) (x6 : Int32) (x7 : Int32) (x8 : Int64) (x11 : Int32) (x12 : Int32) (x15 : Int32) (t0 : Int32) (q : z_Sg) (hi21 : ∀ (x1' : Int64) (x3' : Int64) (x6' : Int32) (x7' : Int32) (x8' : Int64) (x10' : Int32) (x11' : Int32) (x12' : Int32) (q' : z_Sg), y_in x6' (0) (1) → y_in x7' (1) (8) → y_in x12' (0) (64) → iM W S q' → (64 - x12'.toInt).toNat < (64 - x12.toInt).toNat → z_ok (ih21 (x1', x3', x6', x7', x8', x10', x11', x12', q')) (fun o : Int64 × z_Sg => iM W S o.2)) (hx6 : y_in x6 (0) (1)) (hx7 : y_in x7 (1) (8)) (hx12 : y_in x12 (0) (63)) (hq : iM W S q) (hW : W + 0 ≤ 16) : z_ok (k_Mo_add_101 ih21 x1 x3 x6 x7 x8 x11 x12 x15 t0 q) (fun o : Int64 × z_Sg => iM W S o.2) := by
  unfold k_Mo_add_101
  refine z_ok_i (fun c234233 => ?_) (fun c234233 => ?_)
  · have z234234 : y_in (x15 &&& (1 : Int32)) (1) (1) := z_w (z_eq1 c234233 (show y_in (1 : Int32) (1) (1) from ⟨by decide, by decide⟩)) (by decide) (by decide)
    refine z_ok_n (fun n20 en20 => ?_)
    exact t_k_Mo_add_120 W S ih21 x1 x3 x6 x7 n20 t0 x11 x12 q hi21 hx6 hx7 hx12 hq hW
  · have z234235 : y_in (x15 &&& (1 : Int32)) (0) (0) := z_w (z_ne2 c234233 (z_and (show y_in (1 : Int32) (1) (1) from ⟨by decide, by decide⟩) (by decide)) (by decide)) (by decide) (by decide)
    exact t_k_Mo_add_120 W S ih21 x1 x3 x6 x7 x8 t0 x11 x12 q hi21 hx6 hx7 hx12 hq hW

set_option maxHeartbeats 4000000 in
set_option maxRecDepth 100000 in
theorem t_k_Mo_add_77 (W : Nat) (S : z_SS) (ih21 : Int64 × Int64 × Int32 × Int32 × Int64 × Int32 × Int32 × Int32 × z_Sg → Option (Int64 × z_Sg)) (x1 : Int64) (x3 : Int64) (x6 : Int32) (x7 : Int32) (x8 : Int64) (x11 : Int32) (x12 : Int32) (t0 : Int32) (q : z_Sg) (hi21 : ∀ (x1' : Int64) (x3' : Int64) (x6' : Int32) (x7' : Int32) (x8' : Int64) (x10' : Int32) (x11' : Int32) (x12' : Int32) (q' : z_Sg), y_in x6' (0) (1) → y_in x7' (1) (8) → y_in x12' (0) (64) → iM W S q' → (64 - x12'.toInt).toNat < (64 - x12.toInt).toNat → z_ok (ih21 (x1', x3', x6', x7', x8', x10', x11', x12', q')) (fun o : Int64 × z_Sg => iM W S o.2)) (hx6 : y_in x6 (0) (1)) (hx7 : y_in x7 (1) (8)) (hx12 : y_in x12 (0) (63)) (hq : iM W S q) (hW : W + 0 ≤ 16) : z_ok (k_Mo_add_77 ih21 x1 x3 x6 x7 x8 x11 x12 t0 q) (fun o : Int64 × z_Sg => iM W S o.2) := by
  unfold k_Mo_add_77
  refine z_ok_i (fun c234236 => ?_) (fun c234236 => ?_)
  · have z234237 : y_in x6 (0) (0) := z_w (z_eq1 c234236 (show y_in (0 : Int32) (0) (0) from ⟨by decide, by decide⟩)) (by decide) (by decide)
    exact t_k_Mo_add_101 W S ih21 x1 x3 x6 x7 x8 x11 x12 t0 (t0 / (2 : Int32)) q hi21 (z_w z234237 (by decide) (by decide)) hx7 hx12 hq hW
  · have z234238 : y_in x6 (1) (1) := z_w (z_ne1 c234236 hx6 (by decide)) (by decide) (by decide)
    refine z_ok_i (fun c234239 => ?_) (fun c234239 => ?_)
    · exact t_k_Mo_add_101 W S ih21 x1 x3 x6 x7 x8 x11 x12 t0 (0 : Int32) q hi21 (z_w z234238 (by decide) (by decide)) hx7 hx12 hq hW
    · exact t_k_Mo_add_101 W S ih21 x1 x3 x6 x7 x8 x11 x12 t0 (1 : Int32) q hi21 (z_w z234238 (by decide) (by decide)) hx7 hx12 hq hW

set_option maxHeartbeats 4000000 in
set_option maxRecDepth 100000 in
theorem t_kb_Mo_add_21 (W : Nat) (S : z_SS) (ih21 : Int64 × Int64 × Int32 × Int32 × Int64 × Int32 × Int32 × Int32 × z_Sg → Option (Int64 × z_Sg)) (x1 : Int64) (x3 : Int64) (x6 : Int32) (x7 : Int32) (x8 : Int64) (x10 : Int32) (x11 : Int32) (x12 : Int32) (q : z_Sg) (hi21 : ∀ (x1' : Int64) (x3' : Int64) (x6' : Int32) (x7' : Int32) (x8' : Int64) (x10' : Int32) (x11' : Int32) (x12' : Int32) (q' : z_Sg), y_in x6' (0) (1) → y_in x7' (1) (8) → y_in x12' (0) (64) → iM W S q' → (64 - x12'.toInt).toNat < (64 - x12.toInt).toNat → z_ok (ih21 (x1', x3', x6', x7', x8', x10', x11', x12', q')) (fun o : Int64 × z_Sg => iM W S o.2)) (hx6 : y_in x6 (0) (1)) (hx7 : y_in x7 (1) (8)) (hx12 : y_in x12 (0) (64)) (hq : iM W S q) (hW : W + 0 ≤ 16) : z_ok (kb_Mo_add_21 ih21 x1 x3 x6 x7 x8 x10 x11 x12 q) (fun o : Int64 × z_Sg => iM W S o.2) := by
  unfold kb_Mo_add_21
  refine z_ok_i (fun c234240 => ?_) (fun c234240 => ?_)
  · have z234241 : y_in x12 (8) (64) := z_w (z_le2 c234240 (z_w (a' := 8) (b' := 64) (z_mul (show y_in (8 : Int32) (8) (8) from ⟨by decide, by decide⟩) hx7 (by decide) (by decide) (by decide)) (by decide) (by decide)) hx12) (by decide) (by decide)
    refine z_ok_i (fun c234242 => ?_) (fun c234242 => ?_)
    · have z234243 : y_in x10 (1) (1) := z_w (z_eq1 c234242 (show y_in (1 : Int32) (1) (1) from ⟨by decide, by decide⟩)) (by decide) (by decide)
      exact t_k_Mo_add_165 W S x7 x8 x10 x11 (0 : Int32) (1 : Int32) q hx7 (show y_in (0 : Int32) (0) (0) from ⟨by decide, by decide⟩) (z_w (show y_in (1 : Int32) (1) (1) from ⟨by decide, by decide⟩) (by decide) (by decide)) hq hW
    · exact t_k_Mo_add_165 W S x7 x8 x10 x11 (0 : Int32) (0 : Int32) q hx7 (show y_in (0 : Int32) (0) (0) from ⟨by decide, by decide⟩) (z_w (show y_in (0 : Int32) (0) (0) from ⟨by decide, by decide⟩) (by decide) (by decide)) hq hW
  · have z234244 : y_in x12 (0) (63) := z_w (z_nle2 c234240 (z_w (a' := 8) (b' := 64) (z_mul (show y_in (8 : Int32) (8) (8) from ⟨by decide, by decide⟩) hx7 (by decide) (by decide) (by decide)) (by decide) (by decide)) hx12) (by decide) (by decide)
    refine z_ok_n (fun n10 en10 => ?_)
    have hn10 : y_in n10 (0) (1) := z_e en10 (z_l2i (n := 1) rfl (by decide))
    refine z_ok_n (fun n11 en11 => ?_)
    have hn11 : y_in n11 (0) (1) := z_e en11 (z_l2i (n := 1) rfl (by decide))
    refine z_ok_i (fun c234245 => ?_) (fun c234245 => ?_)
    · have z234246 : y_in x6 (0) (0) := z_w (z_eq1 c234245 (show y_in (0 : Int32) (0) (0) from ⟨by decide, by decide⟩)) (by decide) (by decide)
      exact t_k_Mo_add_77 W S ih21 x1 x3 x6 x7 x8 x10 x12 ((n10 + n11) + x10) q hi21 (z_w z234246 (by decide) (by decide)) hx7 z234244 hq hW
    · have z234247 : y_in x6 (1) (1) := z_w (z_ne1 c234245 hx6 (by decide)) (by decide) (by decide)
      exact t_k_Mo_add_77 W S ih21 x1 x3 x6 x7 x8 x10 x12 ((n10 - n11) - x10) q hi21 (z_w z234247 (by decide) (by decide)) hx7 z234244 hq hW

set_option maxHeartbeats 4000000 in
set_option maxRecDepth 100000 in
theorem t_k_Mo_add_21 (W : Nat) (S : z_SS) (x1 : Int64) (x3 : Int64) (x6 : Int32) (x7 : Int32) (x8 : Int64) (x10 : Int32) (x11 : Int32) (x12 : Int32) (q : z_Sg) (hx6 : y_in x6 (0) (1)) (hx7 : y_in x7 (1) (8)) (hx8 : y_il x8 (0) (0)) (hx10 : y_in x10 (0) (1)) (hx11 : y_in x11 (0) (0)) (hx12 : y_in x12 (0) (0)) (hq : iM W S q) (hW : W + 0 ≤ 16) : z_ok (k_Mo_add_21 x1 x3 x6 x7 x8 x10 x11 x12 q) (fun o : Int64 × z_Sg => iM W S o.2) := by
  unfold k_Mo_add_21
  refine z_ok_l (fun a : Int64 × Int64 × Int32 × Int32 × Int64 × Int32 × Int32 × Int32 × z_Sg => y_in a.2.2.1 (0) (1) ∧ y_in a.2.2.2.1 (1) (8) ∧ y_in a.2.2.2.2.2.2.2.1 (0) (64) ∧ iM W S a.2.2.2.2.2.2.2.2) (fun a => (64 - a.2.2.2.2.2.2.2.1.toInt).toNat) ?_ (x1, x3, x6, x7, x8, x10, x11, x12, q) ⟨hx6, hx7, (z_w hx12 (by decide) (by decide)), hq⟩ (by show ((64 - x12.toInt).toNat) < 2000; have z1 := hx12.1; have z2 := hx12.2; omega)
  intro ih a ha hih
  exact t_kb_Mo_add_21 W S ih a.1 a.2.1 a.2.2.1 a.2.2.2.1 a.2.2.2.2.1 a.2.2.2.2.2.1 a.2.2.2.2.2.2.1 a.2.2.2.2.2.2.2.1 a.2.2.2.2.2.2.2.2 (fun x1' x3' x6' x7' x8' x10' x11' x12' q' hx6' hx7' hx12' hq' hm => hih (x1', x3', x6', x7', x8', x10', x11', x12', q') ⟨hx6', hx7', hx12', hq'⟩ hm) ha.1 ha.2.1 ha.2.2.1 ha.2.2.2 hW

set_option maxHeartbeats 4000000 in
set_option maxRecDepth 100000 in
theorem t_k_Mo_add_13 (W : Nat) (S : z_SS) (x1 : Int64) (x3 : Int64) (x6 : Int32) (x7 : Int32) (x8 : Int64) (t0 : Int32) (q : z_Sg) (hx6 : y_in x6 (0) (1)) (hx7 : y_in x7 (1) (8)) (hx8 : y_il x8 (0) (0)) (ht0 : y_in t0 (0) (1)) (hq : iM W S q) (hW : W + 0 ≤ 16) : z_ok (k_Mo_add_13 x1 x3 x6 x7 x8 t0 q) (fun o : Int64 × z_Sg => iM W S o.2) := by
  unfold k_Mo_add_13
  exact t_k_Mo_add_21 W S x1 x3 x6 x7 x8 t0 (0 : Int32) (0 : Int32) q hx6 hx7 hx8 ht0 (show y_in (0 : Int32) (0) (0) from ⟨by decide, by decide⟩) (show y_in (0 : Int32) (0) (0) from ⟨by decide, by decide⟩) hq hW

set_option maxHeartbeats 4000000 in
set_option maxRecDepth 100000 in
theorem t_f_Mo_add (W : Nat) (S : z_SS) (x1 : Int64) (x3 : Int64) (x5 : Int32) (x6 : Int32) (x7 : Int32) (q : z_Sg) (hx5 : y_in x5 (0) (1)) (hx6 : y_in x6 (0) (1)) (hx7 : y_in x7 (1) (8)) (hq : iM W S q) (hW : W + 0 ≤ 16) : z_ok (f_Mo_add x1 x3 x5 x6 x7 q) (fun o : Int64 × z_Sg => iM W S o.2) := by
  unfold f_Mo_add
  refine z_ok_i (fun c234248 => ?_) (fun c234248 => ?_)
  · have z234249 : y_in x5 (0) (0) := z_w (z_eq1 c234248 (show y_in (0 : Int32) (0) (0) from ⟨by decide, by decide⟩)) (by decide) (by decide)
    exact t_k_Mo_add_13 W S x1 x3 x6 x7 (0 : Int64) (0 : Int32) q hx6 hx7 (show y_il (0 : Int64) (0) (0) from ⟨by decide, by decide⟩) (z_w (show y_in (0 : Int32) (0) (0) from ⟨by decide, by decide⟩) (by decide) (by decide)) hq hW
  · have z234250 : y_in x5 (1) (1) := z_w (z_ne1 c234248 hx5 (by decide)) (by decide) (by decide)
    exact t_k_Mo_add_13 W S x1 x3 x6 x7 (0 : Int64) (1 : Int32) q hx6 hx7 (show y_il (0 : Int64) (0) (0) from ⟨by decide, by decide⟩) (z_w (show y_in (1 : Int32) (1) (1) from ⟨by decide, by decide⟩) (by decide) (by decide)) hq hW

set_option maxHeartbeats 4000000 in
set_option maxRecDepth 100000 in
theorem t_k_Mo_undefinedBit_75 (W : Nat) (S : z_SS) (t0 : Int32) (q : z_Sg) (ht0 : y_in t0 (0) (1)) (hq : iM W S q) (hW : W + 0 ≤ 16) : z_ok (k_Mo_undefinedBit_75 t0 q) (fun o : Int32 => y_in o (0) (1)) := by
  unfold k_Mo_undefinedBit_75
  refine z_ok_G (z_bi ht0) ?_
  exact z_ok_s ht0

set_option maxHeartbeats 4000000 in
set_option maxRecDepth 100000 in
theorem t_k_Mo_undefinedBit_62 (W : Nat) (S : z_SS) (t0 : Int64) (t1 : Int32) (q : z_Sg) (ht1 : y_in t1 (0) (11)) (hq : iM W S q) (hW : W + 0 ≤ 16) : z_ok (k_Mo_undefinedBit_62 t0 t1 q) (fun o : Int32 => y_in o (0) (1)) := by
  unfold k_Mo_undefinedBit_62
  refine z_ok_i (fun c234251 => ?_) (fun c234251 => ?_)
  · exact t_k_Mo_undefinedBit_75 W S (1 : Int32) q (z_w (show y_in (1 : Int32) (1) (1) from ⟨by decide, by decide⟩) (by decide) (by decide)) hq hW
  · exact t_k_Mo_undefinedBit_75 W S (0 : Int32) q (z_w (show y_in (0 : Int32) (0) (0) from ⟨by decide, by decide⟩) (by decide) (by decide)) hq hW

set_option maxHeartbeats 4000000 in
set_option maxRecDepth 100000 in
theorem t_f_Mo_undefinedBit (W : Nat) (S : z_SS) (x1 : Int32) (q : z_Sg) (hx1 : y_in x1 (0) (6)) (hq : iM W S q) (hW : W + 0 ≤ 16) : z_ok (f_Mo_undefinedBit x1 q) (fun o : Int32 => y_in o (0) (1)) := by
  unfold f_Mo_undefinedBit
  refine z_ok_i (fun c234252 => ?_) (fun c234252 => ?_)
  · have z234253 : y_in x1 (0) (0) := z_w (z_eq1 c234252 (show y_in (0 : Int32) (0) (0) from ⟨by decide, by decide⟩)) (by decide) (by decide)
    exact t_k_Mo_undefinedBit_62 W S (z_gL q 4) (0 : Int32) q (z_w (show y_in (0 : Int32) (0) (0) from ⟨by decide, by decide⟩) (by decide) (by decide)) hq hW
  · have z234254 : y_in x1 (1) (6) := z_w (z_ne1 c234252 hx1 (by decide)) (by decide) (by decide)
    refine z_ok_i (fun c234255 => ?_) (fun c234255 => ?_)
    · have z234256 : y_in x1 (1) (1) := z_w (z_eq1 c234255 (show y_in (1 : Int32) (1) (1) from ⟨by decide, by decide⟩)) (by decide) (by decide)
      exact t_k_Mo_undefinedBit_62 W S (z_gL q 4) (2 : Int32) q (z_w (show y_in (2 : Int32) (2) (2) from ⟨by decide, by decide⟩) (by decide) (by decide)) hq hW
    · have z234257 : y_in x1 (2) (6) := z_w (z_ne1 c234255 z234254 (by decide)) (by decide) (by decide)
      refine z_ok_i (fun c234258 => ?_) (fun c234258 => ?_)
      · have z234259 : y_in x1 (2) (2) := z_w (z_eq1 c234258 (show y_in (2 : Int32) (2) (2) from ⟨by decide, by decide⟩)) (by decide) (by decide)
        exact t_k_Mo_undefinedBit_62 W S (z_gL q 4) (4 : Int32) q (z_w (show y_in (4 : Int32) (4) (4) from ⟨by decide, by decide⟩) (by decide) (by decide)) hq hW
      · have z234260 : y_in x1 (3) (6) := z_w (z_ne1 c234258 z234257 (by decide)) (by decide) (by decide)
        refine z_ok_i (fun c234261 => ?_) (fun c234261 => ?_)
        · have z234262 : y_in x1 (3) (3) := z_w (z_eq1 c234261 (show y_in (3 : Int32) (3) (3) from ⟨by decide, by decide⟩)) (by decide) (by decide)
          exact t_k_Mo_undefinedBit_62 W S (z_gL q 4) (6 : Int32) q (z_w (show y_in (6 : Int32) (6) (6) from ⟨by decide, by decide⟩) (by decide) (by decide)) hq hW
        · have z234263 : y_in x1 (4) (6) := z_w (z_ne1 c234261 z234260 (by decide)) (by decide) (by decide)
          refine z_ok_i (fun c234264 => ?_) (fun c234264 => ?_)
          · have z234265 : y_in x1 (4) (4) := z_w (z_eq1 c234264 (show y_in (4 : Int32) (4) (4) from ⟨by decide, by decide⟩)) (by decide) (by decide)
            exact t_k_Mo_undefinedBit_62 W S (z_gL q 4) (7 : Int32) q (z_w (show y_in (7 : Int32) (7) (7) from ⟨by decide, by decide⟩) (by decide) (by decide)) hq hW
          · have z234266 : y_in x1 (5) (6) := z_w (z_ne1 c234264 z234263 (by decide)) (by decide) (by decide)
            refine z_ok_i (fun c234267 => ?_) (fun c234267 => ?_)
            · have z234268 : y_in x1 (5) (5) := z_w (z_eq1 c234267 (show y_in (5 : Int32) (5) (5) from ⟨by decide, by decide⟩)) (by decide) (by decide)
              exact t_k_Mo_undefinedBit_62 W S (z_gL q 4) (10 : Int32) q (z_w (show y_in (10 : Int32) (10) (10) from ⟨by decide, by decide⟩) (by decide) (by decide)) hq hW
            · have z234269 : y_in x1 (6) (6) := z_w (z_ne1 c234267 z234266 (by decide)) (by decide) (by decide)
              exact t_k_Mo_undefinedBit_62 W S (z_gL q 4) (11 : Int32) q (z_w (show y_in (11 : Int32) (11) (11) from ⟨by decide, by decide⟩) (by decide) (by decide)) hq hW

set_option maxHeartbeats 4000000 in
set_option maxRecDepth 100000 in
theorem t_f_Mo_leave (W : Nat) (S : z_SS) (x1 : Int32) (q : z_Sg) (hx1 : y_in x1 (0) (6)) (hq : iM W S q) (hW : W + 0 ≤ 16) : z_ok (f_Mo_leave x1 q) (fun o : z_Sg => iM W S o) := by
  unfold f_Mo_leave
  refine z_ok_b (t_f_Mo_undefinedBit W S x1 q hx1 hq (by omega)) (fun r1 hr1 => ?_)
  refine z_ok_g (z_nbad hx1 (by decide)) ?_
  refine z_ok_n (fun q3 eq3 => ?_)
  have hq3 : iM W S q3 := by rw [eq3]; exact (iM_sN1 hq)
  exact z_ok_s hq3

set_option maxHeartbeats 4000000 in
set_option maxRecDepth 100000 in
theorem t_f_Mo_logic (W : Nat) (S : z_SS) (x1 : Int64) (x3 : Int32) (q : z_Sg) (hx3 : y_in x3 (1) (8)) (hq : iM W S q) (hW : W + 0 ≤ 16) : z_ok (f_Mo_logic x1 x3 q) (fun o : Int64 × z_Sg => iM W S o.2) := by
  unfold f_Mo_logic
  refine z_ok_g (z_nbad (show y_in (0 : Int32) (0) (0) from ⟨by decide, by decide⟩) (by decide)) ?_
  refine z_ok_n (fun q2 eq2 => ?_)
  have hq2 : iM W S q2 := by rw [eq2]; exact (iM_sN1 hq)
  refine z_ok_g (z_nbad (z_w (show y_in (6 : Int32) (6) (6) from ⟨by decide, by decide⟩) (by decide) (Int.le_refl _)) (by decide)) ?_
  refine z_ok_n (fun q4 eq4 => ?_)
  have hq4 : iM W S q4 := by rw [eq4]; exact (iM_sN1 hq2)
  refine z_ok_b (t_f_Mo_leave W S (2 : Int32) q4 (z_w (show y_in (2 : Int32) (2) (2) from ⟨by decide, by decide⟩) (by decide) (by decide)) hq4 (by omega)) (fun r5 hr5 => ?_)
  refine z_ok_b (t_f_Mo_result W S x1 x3 r5 hx3 hr5 (by omega)) (fun r6 hr6 => ?_)
  exact z_ok_s hr6

set_option maxHeartbeats 4000000 in
set_option maxRecDepth 100000 in
theorem t_k_Mo_reckon_100 (W : Nat) (S : z_SS) (x6 : Int32) (x7 : Int32) (t1 : Int64) (t2 : Int64) (t3 : Int32) (q : z_Sg) (hx6 : y_in x6 (1) (8)) (hx7 : y_in x7 (0) (1)) (ht3 : y_in t3 (0) (1)) (hq : iM W S q) (hW : W + 0 ≤ 16) : z_ok (k_Mo_reckon_100 x6 x7 t1 t2 t3 q) (fun o : Int64 × z_Sg => iM W S o.2) := by
  unfold k_Mo_reckon_100
  refine z_ok_b (t_f_Mo_add W S t1 t2 t3 x7 x6 q ht3 hx7 hx6 hq (by omega)) (fun r8 hr8 => ?_)
  exact z_ok_s hr8

set_option maxHeartbeats 4000000 in
set_option maxRecDepth 100000 in
theorem t_k_Mo_reckon_99 (W : Nat) (S : z_SS) (x6 : Int32) (x7 : Int32) (t1 : Int64) (t2 : Int64) (q : z_Sg) (hx6 : y_in x6 (1) (8)) (hx7 : y_in x7 (0) (1)) (hq : iM W S q) (hW : W + 0 ≤ 16) : z_ok (k_Mo_reckon_99 x6 x7 t1 t2 q) (fun o : Int64 × z_Sg => iM W S o.2) := by
  unfold k_Mo_reckon_99
  exact t_k_Mo_reckon_100 W S x6 x7 t1 t2 (0 : Int32) q hx6 hx7 (z_w (show y_in (0 : Int32) (0) (0) from ⟨by decide, by decide⟩) (by decide) (by decide)) hq hW

set_option maxHeartbeats 4000000 in
set_option maxRecDepth 100000 in
theorem t_k_Mo_reckon_86 (W : Nat) (S : z_SS) (x6 : Int32) (x7 : Int32) (t1 : Int64) (t2 : Int64) (q : z_Sg) (hx6 : y_in x6 (1) (8)) (hx7 : y_in x7 (0) (1)) (hq : iM W S q) (hW : W + 0 ≤ 16) : z_ok (k_Mo_reckon_86 x6 x7 t1 t2 q) (fun o : Int64 × z_Sg => iM W S o.2) := by
  unfold k_Mo_reckon_86
  refine z_ok_g (z_nbad (show y_in (0 : Int32) (0) (0) from ⟨by decide, by decide⟩) (by decide)) ?_
  refine z_ok_i (fun c234270 => ?_) (fun c234270 => ?_)
  · have z234271 : y_in (z_gN q 1 (0 : Int32).toNatClampNeg) (0) (0) := z_w (z_eq1 c234270 (show y_in (0 : Int32) (0) (0) from ⟨by decide, by decide⟩)) (by decide) (by decide)
    exact t_k_Mo_reckon_99 W S x6 x7 t1 t2 q hx6 hx7 hq hW
  · have z234272 : y_in (z_gN q 1 (0 : Int32).toNatClampNeg) (1) (1) := z_w (z_ne1 c234270 (iM_n1 hq _) (by decide)) (by decide) (by decide)
    exact t_k_Mo_reckon_100 W S x6 x7 t1 t2 (1 : Int32) q hx6 hx7 (z_w (show y_in (1 : Int32) (1) (1) from ⟨by decide, by decide⟩) (by decide) (by decide)) hq hW

set_option maxHeartbeats 4000000 in
set_option maxRecDepth 100000 in
theorem t_k_Mo_reckon_70 (W : Nat) (S : z_SS) (x1 : Int32) (x2 : Int64) (x4 : Int64) (x6 : Int32) (t0 : Int32) (q : z_Sg) (hx1 : y_in x1 (0) (7)) (hx6 : y_in x6 (1) (8)) (ht0 : y_in t0 (0) (1)) (hq : iM W S q) (hW : W + 0 ≤ 16) : z_ok (k_Mo_reckon_70 x1 x2 x4 x6 t0 q) (fun o : Int64 × z_Sg => iM W S o.2) := by
  unfold k_Mo_reckon_70
  refine z_ok_i (fun c234273 => ?_) (fun c234273 => ?_)
  · have z234274 : y_in x1 (2) (2) := z_w (z_eq1 c234273 (show y_in (2 : Int32) (2) (2) from ⟨by decide, by decide⟩)) (by decide) (by decide)
    exact t_k_Mo_reckon_86 W S x6 t0 x2 x4 q hx6 ht0 hq hW
  · refine z_ok_i (fun c234275 => ?_) (fun c234275 => ?_)
    · have z234276 : y_in x1 (3) (3) := z_w (z_eq1 c234275 (show y_in (3 : Int32) (3) (3) from ⟨by decide, by decide⟩)) (by decide) (by decide)
      exact t_k_Mo_reckon_86 W S x6 t0 x2 x4 q hx6 ht0 hq hW
    · exact t_k_Mo_reckon_99 W S x6 t0 x2 x4 q hx6 ht0 hq hW

set_option maxHeartbeats 4000000 in
set_option maxRecDepth 100000 in
theorem t_k_Mo_reckon_65 (W : Nat) (S : z_SS) (x1 : Int32) (x2 : Int64) (x4 : Int64) (x6 : Int32) (q : z_Sg) (hx1 : y_in x1 (3) (7)) (hx6 : y_in x6 (1) (8)) (hq : iM W S q) (hW : W + 0 ≤ 16) : z_ok (k_Mo_reckon_65 x1 x2 x4 x6 q) (fun o : Int64 × z_Sg => iM W S o.2) := by
  unfold k_Mo_reckon_65
  exact t_k_Mo_reckon_70 W S x1 x2 x4 x6 (1 : Int32) q (z_w hx1 (by decide) (by decide)) hx6 (z_w (show y_in (1 : Int32) (1) (1) from ⟨by decide, by decide⟩) (by decide) (by decide)) hq hW

set_option maxHeartbeats 4000000 in
set_option maxRecDepth 100000 in
theorem t_f_Mo_reckon (W : Nat) (S : z_SS) (x1 : Int32) (x2 : Int64) (x4 : Int64) (x6 : Int32) (q : z_Sg) (hx1 : y_in x1 (0) (7)) (hx6 : y_in x6 (1) (8)) (hq : iM W S q) (hW : W + 0 ≤ 16) : z_ok (f_Mo_reckon x1 x2 x4 x6 q) (fun o : Int64 × z_Sg => iM W S o.2) := by
  unfold f_Mo_reckon
  refine z_ok_i (fun c234277 => ?_) (fun c234277 => ?_)
  · have z234278 : y_in x1 (1) (1) := z_w (z_eq1 c234277 (show y_in (1 : Int32) (1) (1) from ⟨by decide, by decide⟩)) (by decide) (by decide)
    refine z_ok_b (t_f_Mo_logic W S (x2 ||| x4) x6 q hx6 hq (by omega)) (fun r14 hr14 => ?_)
    exact z_ok_s hr14
  · refine z_ok_i (fun c234279 => ?_) (fun c234279 => ?_)
    · have z234280 : y_in x1 (4) (4) := z_w (z_eq1 c234279 (show y_in (4 : Int32) (4) (4) from ⟨by decide, by decide⟩)) (by decide) (by decide)
      refine z_ok_b (t_f_Mo_logic W S (x2 &&& x4) x6 q hx6 hq (by omega)) (fun r13 hr13 => ?_)
      exact z_ok_s hr13
    · refine z_ok_i (fun c234281 => ?_) (fun c234281 => ?_)
      · have z234282 : y_in x1 (6) (6) := z_w (z_eq1 c234281 (show y_in (6 : Int32) (6) (6) from ⟨by decide, by decide⟩)) (by decide) (by decide)
        refine z_ok_b (t_f_Mo_logic W S (x2 ^^^ x4) x6 q hx6 hq (by omega)) (fun r12 hr12 => ?_)
        exact z_ok_s hr12
      · refine z_ok_i (fun c234283 => ?_) (fun c234283 => ?_)
        · have z234284 : y_in x1 (3) (3) := z_w (z_eq1 c234283 (show y_in (3 : Int32) (3) (3) from ⟨by decide, by decide⟩)) (by decide) (by decide)
          exact t_k_Mo_reckon_65 W S x1 x2 x4 x6 q (z_w z234284 (by decide) (by decide)) hx6 hq hW
        · refine z_ok_i (fun c234285 => ?_) (fun c234285 => ?_)
          · have z234286 : y_in x1 (5) (5) := z_w (z_eq1 c234285 (show y_in (5 : Int32) (5) (5) from ⟨by decide, by decide⟩)) (by decide) (by decide)
            exact t_k_Mo_reckon_65 W S x1 x2 x4 x6 q (z_w z234286 (by decide) (by decide)) hx6 hq hW
          · refine z_ok_i (fun c234287 => ?_) (fun c234287 => ?_)
            · have z234288 : y_in x1 (7) (7) := z_w (z_eq1 c234287 (show y_in (7 : Int32) (7) (7) from ⟨by decide, by decide⟩)) (by decide) (by decide)
              exact t_k_Mo_reckon_65 W S x1 x2 x4 x6 q (z_w z234288 (by decide) (by decide)) hx6 hq hW
            · have z234289 : y_in x1 (0) (6) := z_w (z_ne2 c234287 hx1 (by decide)) (by decide) (by decide)
              exact t_k_Mo_reckon_70 W S x1 x2 x4 x6 (0 : Int32) q (z_w z234289 (by decide) (by decide)) hx6 (z_w (show y_in (0 : Int32) (0) (0) from ⟨by decide, by decide⟩) (by decide) (by decide)) hq hW




set_option maxHeartbeats 4000000 in
set_option maxRecDepth 100000 in
theorem t_f_Mo_hold (W : Nat) (S : z_SS) (x1 : Int64) (x3 : Int32) (q : z_Sg) (hx3 : y_in x3 (1) (8)) (hq : iM W S q) (hW : W + 8 ≤ 16) (hk : z_gI q 4 = -1 → ∀ j : Nat, (j : Int) < x3.toInt → 0 ≤ (z_gM q 3 j).toInt) : z_ok (f_Mo_hold x1 x3 q) (fun o : z_Sg => iM (W + 8) S o) := by
  unfold f_Mo_hold k_Mo_hold_3
  refine z_ok_l (fun a : Int64 × Int32 × Int32 × z_Sg => a.2.1 = x3 ∧ y_in a.2.2.1 0 x3.toInt ∧ iM (W + a.2.2.1.toInt.toNat) S a.2.2.2 ∧ (z_gI a.2.2.2 4 = -1 → ∀ j : Nat, (j : Int) < x3.toInt → 0 ≤ (z_gM a.2.2.2 3 j).toInt)) (fun a => (8 - a.2.2.1.toInt).toNat) ?_ (x1, x3, 0, q) ⟨rfl, ⟨Int.le_refl 0, by show (0 : Int) ≤ x3.toInt; have := hx3.1; omega⟩, hq, hk⟩ (by show (8 - (0 : Int)).toNat < 2000; decide)
  rintro ih ⟨a1, a2, a3, a4⟩ ⟨e2, h5, h6, h7⟩ hih
  dsimp only at e2 h5 h6 h7 hih ⊢
  subst e2
  have h3a := hx3.2
  have h50 := h5.1
  have h51 := h5.2
  have done : z_ok (k_Mo_hold_70 a4) (fun o : z_Sg => iM (W + 8) S o) := by
    unfold k_Mo_hold_70
    exact z_ok_s (iM_w h6 (by omega))
  unfold kb_Mo_hold_3
  refine z_ok_i (fun c1 => done) (fun c1 => ?_)
  have hlt : ¬ a2.toInt ≤ a3.toInt := fun h => c1 (Int32.le_iff_toInt_le.mpr h)
  refine z_ok_i (fun c2 => ?_) (fun c2 => done)
  have hw := iM_wt h6
  have hw1 := hw.1
  have hw2 := hw.2
  have hwi : y_in (z_gI a4 5) 0 15 := ⟨hw1, by omega⟩
  have en : (a3 + 1).toInt = a3.toInt + 1 := by
    rw [Int32.toInt_add, show (1 : Int32).toInt = 1 from rfl]
    exact z_bmod (by omega) (by omega)
  have ew : (z_gI a4 5 + 1).toInt = (z_gI a4 5).toInt + 1 := by
    rw [Int32.toInt_add, show (1 : Int32).toInt = 1 from rfl]
    exact z_bmod (by omega) (by omega)
  have hcl : a3.toNatClampNeg = a3.toInt.toNat := rfl
  refine z_ok_g (z_nbad (show y_in a3 0 7 from ⟨h50, by omega⟩) (by decide)) ?_
  refine z_ok_g (z_nbad hwi (by decide)) ?_
  refine z_ok_n (fun q5 e5 => ?_)
  have g5 : iM (W + a3.toInt.toNat) S q5 := by rw [e5]; exact iM_sM2 h6 (h7 c2 _ (by rw [hcl]; omega))
  have w5 : z_gI q5 5 = z_gI a4 5 := by rw [e5]; rfl
  rw [w5]
  refine z_ok_g (z_nbad hwi (by decide)) ?_
  refine z_ok_n (fun q7 e7 => ?_)
  have g7 : iM (W + a3.toInt.toNat) S q7 := by rw [e7]; exact iM_sN3 g5
  have w7 : z_gI q7 5 = z_gI a4 5 := by rw [e7]; exact w5
  rw [w7]
  refine z_ok_n (fun q8 e8 => ?_)
  refine z_ok_n (fun n9 e9 => ?_)
  subst e9
  refine hih (a1, a2, a3 + 1, q8) ⟨rfl, ⟨by rw [en]; omega, by rw [en]; omega⟩, ?_, ?_⟩ ?_
  · rw [e8, en]
    exact iM_sI5 (V := W + (a3.toInt + 1).toNat) g7 ⟨by rw [ew]; omega, by rw [ew]; omega⟩
  · rw [e8, e7, e5]
    exact h7
  · show (8 - (a3 + 1).toInt).toNat < (8 - a3.toInt).toNat
    rw [en]
    omega


set_option maxHeartbeats 4000000 in
set_option maxRecDepth 100000 in
theorem t_f_Mo_put8 (W : Nat) (S : z_SS) (x1 : Int32) (x2 : Int32) (x3 : Int64) (q : z_Sg) (hx1 : y_in x1 (0) (15)) (hx2 : y_in x2 (1) (8)) (hq : iM W S q) (hW : W + 0 ≤ 16) : z_ok (f_Mo_put8 x1 x2 x3 q) (fun o : z_Sg => iM W S o) := by
  unfold f_Mo_put8 k_Mo_put8_99
  refine z_ok_i (fun c0 => ?_) (fun c0 => z_ok_s hq)
  refine z_ok_b (t_high x1 x2 q) (fun r2 hr2 => ?_)
  refine z_ok_i (fun c => ?_) (fun c => ?_)
  · refine z_ok_i (fun c1 => ?_) (fun c1 => ?_)
    · refine z_ok_g (z_nbad hx1 (by decide)) ?_
      refine z_ok_b (t_f_Mo_lowest W S _ x2 q hx2 hq (by omega)) (fun r6 _ => ?_)
      refine z_ok_b (t_f_Mo_lowest W S _ x2 q hx2 hq (by omega)) (fun r7 _ => ?_)
      refine z_ok_g (z_nbad hx1 (by decide)) ?_
      exact z_ok_n (fun q9 e9 => z_ok_s (by rw [e9]; exact iM_sM0 hq))
    · refine z_ok_b (t_f_Mo_lowest W S _ x2 q hx2 hq (by omega)) (fun r10 _ => ?_)
      refine z_ok_g (z_nbad hx1 (by decide)) ?_
      exact z_ok_n (fun q9 e9 => z_ok_s (by rw [e9]; exact iM_sM0 hq))
  · have hb : ¬ z_bad (x1 - (4 : Int32)) 16 := z_nbad (z_w (a' := 0) (b' := 3) (z_sub (hr2.2 c) (show y_in (4 : Int32) (4) (4) from ⟨by decide, by decide⟩) (by decide) (by decide)) (by decide) (by decide)) (by decide)
    refine z_ok_g hb ?_
    refine z_ok_b (t_f_Mo_lowest W S _ 1 q (z_w (show y_in (1 : Int32) (1) (1) from ⟨by decide, by decide⟩) (by decide) (by decide)) hq (by omega)) (fun r14 _ => ?_)
    refine z_ok_g hb ?_
    exact z_ok_n (fun q9 e9 => z_ok_s (by rw [e9]; exact iM_sM0 hq))


theorem t_setE (W : Nat) (S : z_SS) (x1 : Int32) (x2 : Int64) (q : z_Sg) (hx1 : y_in x1 (1) (8)) (hq : iM W S q) (hS : S.1 = x1) (hW : W + 8 ≤ 16) : z_ok (f_Mo_setE x1 x2 q) (fun o : z_Sg => iM (W + 8) S o) := by
  unfold f_Mo_setE k_Mo_setE_33
  refine z_ok_i (fun c => ?_) (fun c => ?_)
  · refine z_ok_b (t_f_Mo_plus W S 1 q (z_w (show y_in (1 : Int32) (1) (1) from ⟨by decide, by decide⟩) (by decide) (by decide)) hq (by omega)) (fun r3 hr3 => ?_)
    exact z_ok_b (t_f_Mo_put8 W S (z_gI q 9 + r3) x1 x2 q (z_w (a' := 0) (b' := 15) (z_add (iM_f9 hq) hr3 (by decide) (by decide)) (by decide) (by decide)) hx1 hq (by omega)) (fun r4 hr4 => z_ok_s (iM_w hr4 (by omega)))
  · refine z_ok_b (t_f_Mo_hold W S x2 x1 q hx1 hq hW (fun hr => ?_)) (fun r2 hr2 => z_ok_s hr2)
    rcases (iM_k hq).1 with h | h | h
    · exact absurd h.2 c
    · exact absurd hr h
    · rw [hS] at h; exact h
theorem t_f_Mo_setE (W : Nat) (S : z_SS) (x1 : Int32) (x2 : Int64) (q : z_Sg) (hx1 : y_in x1 (1) (8)) (hq : iM W (x1, true, fun _ _ _ => True) q) (hW : W + 8 ≤ 16) : z_ok (f_Mo_setE x1 x2 q) (fun o : z_Sg => iM (W + 8) (x1, true, fun _ _ _ => True) o) := t_setE W _ x1 x2 q hx1 hq rfl hW

set_option maxHeartbeats 4000000 in
set_option maxRecDepth 100000 in
theorem t_k_Mo_group_75 (W : Nat) (S : z_SS) (q : z_Sg) (hq : iM (W + 8) z_Z q) (hW : W + 8 ≤ 16) : z_ok (k_Mo_group_75 q) (fun o : z_Sg => iM (W + 8) z_Z o) := by
  unfold k_Mo_group_75
  exact z_ok_s hq

set_option maxHeartbeats 4000000 in
set_option maxRecDepth 100000 in
theorem t_k_Mo_group_49 (W : Nat) (S : z_SS) (x2 : Int32) (x3 : Int64) (t1 : Int32) (t3 : Int32) (t4 : Int32) (q : z_Sg) (hx2 : y_in x2 (1) (8)) (ht1 : y_in t1 (0) (7)) (ht3 : y_in t3 (1) (8)) (ht4 : y_in t4 (0) (1)) (hq : iM W z_Z q) (hW : W + 8 ≤ 16) (hal : t3 = x2) : z_ok (k_Mo_group_49 x2 x3 t1 t3 t4 q) (fun o : z_Sg => iM (W + 8) z_Z o) := by
  unfold k_Mo_group_49
  refine z_ok_b (t_f_Mo_e W z_Z t3 t4 q ht3 ht4 hq (by omega)) (fun r7 hr7 => ?_)
  refine z_ok_b (t_f_Mo_reckon W (x2, true, fun _ _ _ => True) t1 r7.1 x3 x2 r7.2 ht1 hx2 (show iM W (x2, true, fun _ _ _ => True) r7.2 by rw [← hal]; exact hr7) (by omega)) (fun r8 hr8 => ?_)
  refine z_ok_i (fun c234290 => ?_) (fun c234290 => ?_)
  · have z234291 : y_in (z_gI r8.2 8) (7) (7) := z_w (z_eq1 c234290 (show y_in (7 : Int32) (7) (7) from ⟨by decide, by decide⟩)) (by decide) (by decide)
    exact t_k_Mo_group_75 W S r8.2 (iM_w (iM_0 hr8) (by omega)) hW
  · have z234292 : y_in (z_gI r8.2 8) (0) (6) := z_w (z_ne2 c234290 (iM_f8 hr8) (by decide)) (by decide) (by decide)
    refine z_ok_b (t_f_Mo_setE W (x2, true, fun _ _ _ => True) x2 r8.1 r8.2 hx2 hr8 (by omega)) (fun r10 hr10 => ?_)
    exact t_k_Mo_group_75 W S r10 (iM_0 hr10) hW

set_option maxHeartbeats 4000000 in
set_option maxRecDepth 100000 in
theorem t_k_Mo_group_20 (W : Nat) (S : z_SS) (x2 : Int32) (t1 : Int32) (q : z_Sg) (hx2 : y_in x2 (1) (8)) (ht1 : y_in t1 (1) (4)) (hq : iM W z_Z q) (hW : W + 8 ≤ 16) : z_ok (k_Mo_group_20 x2 t1 q) (fun o : z_Sg => iM (W + 8) z_Z o) := by
  unfold k_Mo_group_20
  refine z_ok_b (t_f_Mo_number W z_Z t1 q (z_w ht1 (by decide) (by decide)) hq (by omega)) (fun r4 hr4 => ?_)
  refine z_ok_b (t_f_Mo_lowest W z_Z r4.1 x2 r4.2 hx2 hr4 (by omega)) (fun r5 hr5 => ?_)
  refine z_ok_i (fun c234293 => ?_) (fun c234293 => ?_)
  · have z234294 : y_in (z_gI r4.2 8) (7) (7) := z_w (z_eq1 c234293 (show y_in (7 : Int32) (7) (7) from ⟨by decide, by decide⟩)) (by decide) (by decide)
    exact t_k_Mo_group_49 W S x2 r5 (z_gI r4.2 8) x2 (0 : Int32) r4.2 hx2 (z_w z234294 (by decide) (by decide)) hx2 (z_w (show y_in (0 : Int32) (0) (0) from ⟨by decide, by decide⟩) (by decide) (by decide)) hr4 hW rfl
  · have z234295 : y_in (z_gI r4.2 8) (0) (6) := z_w (z_ne2 c234293 (iM_f8 hr4) (by decide)) (by decide) (by decide)
    exact t_k_Mo_group_49 W S x2 r5 (z_gI r4.2 8) x2 (1 : Int32) r4.2 hx2 (z_w z234295 (by decide) (by decide)) hx2 (z_w (show y_in (1 : Int32) (1) (1) from ⟨by decide, by decide⟩) (by decide) (by decide)) hr4 hW rfl

set_option maxHeartbeats 4000000 in
set_option maxRecDepth 100000 in
theorem t_f_Mo_group (W : Nat) (S : z_SS) (x1 : Int32) (x2 : Int32) (q : z_Sg) (hx1 : y_in x1 (128) (131)) (hx2 : y_in x2 (1) (8)) (hq : iM W S q) (hW : W + 8 ≤ 16) : z_ok (f_Mo_group x1 x2 q) (fun o : z_Sg => iM (W + 8) z_Z o) := by
  unfold f_Mo_group
  refine z_ok_b (t_f_Mo_takeOperand W S q hq (by omega)) (fun r1 hr1 => ?_)
  refine z_ok_i (fun c234296 => ?_) (fun c234296 => ?_)
  · have z234297 : y_in x1 (131) (131) := z_w (z_eq1 c234296 (show y_in (131 : Int32) (131) (131) from ⟨by decide, by decide⟩)) (by decide) (by decide)
    exact t_k_Mo_group_20 W S x2 (1 : Int32) r1 hx2 (z_w (show y_in (1 : Int32) (1) (1) from ⟨by decide, by decide⟩) (by decide) (by decide)) hr1 hW
  · have z234298 : y_in x1 (128) (130) := z_w (z_ne2 c234296 hx1 (by decide)) (by decide) (by decide)
    refine z_ok_b (t_f_Mo_four W z_Z x2 r1 hx2 hr1 (by omega)) (fun r3 hr3 => ?_)
    exact t_k_Mo_group_20 W S x2 r3 r1 hx2 hr3 hr1 hW

set_option maxHeartbeats 4000000 in
set_option maxRecDepth 100000 in
theorem t_k_Mo_rightBy_37 (W : Nat) (S : z_SS) (t0 : Int64) (t1 : Int64) (q : z_Sg) (hq : iM W S q) (hW : W + 0 ≤ 16) : z_ok (k_Mo_rightBy_37 t0 t1 q) (fun o : Int64 × z_Sg => iM W S o.2) := by
  unfold k_Mo_rightBy_37
  exact z_ok_s hq

set_option maxHeartbeats 4000000 in
set_option maxRecDepth 100000 in
theorem t_k_Mo_rightBy_14 (W : Nat) (S : z_SS) (x1 : Int64) (x3 : Int32) (x4 : Int32) (t1 : Int32) (q : z_Sg) (hx3 : y_in x3 (0) (1)) (hx4 : y_in x4 (1) (8)) (ht1 : y_in t1 (0) (1)) (hq : iM W S q) (hW : W + 0 ≤ 16) : z_ok (k_Mo_rightBy_14 x1 x3 x4 t1 q) (fun o : Int64 × z_Sg => iM W S o.2) := by
  unfold k_Mo_rightBy_14
  refine z_ok_G (z_bi ht1) ?_
  refine z_ok_n (fun q3 eq3 => ?_)
  have hq3 : iM W S q3 := by rw [eq3]; exact (iM_sI19 hq ht1)
  refine z_ok_i (fun c234299 => ?_) (fun c234299 => ?_)
  · have z234300 : y_in x3 (0) (0) := z_w (z_eq1 c234299 (show y_in (0 : Int32) (0) (0) from ⟨by decide, by decide⟩)) (by decide) (by decide)
    exact t_k_Mo_rightBy_37 W S (z_lushr x1 (1 : Int32)) (0 : Int64) q3 hq3 hW
  · have z234301 : y_in x3 (1) (1) := z_w (z_ne1 c234299 hx3 (by decide)) (by decide) (by decide)
    exact t_k_Mo_rightBy_37 W S (z_lushr x1 (1 : Int32)) (z_lshl (1 : Int64) (((8 : Int32) * x4) - (1 : Int32))) q3 hq3 hW

set_option maxHeartbeats 4000000 in
set_option maxRecDepth 100000 in
theorem t_f_Mo_rightBy (W : Nat) (S : z_SS) (x1 : Int64) (x3 : Int32) (x4 : Int32) (q : z_Sg) (hx3 : y_in x3 (0) (1)) (hx4 : y_in x4 (1) (8)) (hq : iM W S q) (hW : W + 0 ≤ 16) : z_ok (f_Mo_rightBy x1 x3 x4 q) (fun o : Int64 × z_Sg => iM W S o.2) := by
  unfold f_Mo_rightBy
  refine z_ok_i (fun c234302 => ?_) (fun c234302 => ?_)
  · exact t_k_Mo_rightBy_14 W S x1 x3 x4 (1 : Int32) q hx3 hx4 (z_w (show y_in (1 : Int32) (1) (1) from ⟨by decide, by decide⟩) (by decide) (by decide)) hq hW
  · exact t_k_Mo_rightBy_14 W S x1 x3 x4 (0 : Int32) q hx3 hx4 (z_w (show y_in (0 : Int32) (0) (0) from ⟨by decide, by decide⟩) (by decide) (by decide)) hq hW

set_option maxHeartbeats 4000000 in
set_option maxRecDepth 100000 in
theorem t_k_Mo_leftBy_27 (W : Nat) (S : z_SS) (t0 : Int64) (t1 : Int64) (q : z_Sg) (ht1 : y_il t1 (0) (1)) (hq : iM W S q) (hW : W + 0 ≤ 16) : z_ok (k_Mo_leftBy_27 t0 t1 q) (fun o : Int64 × z_Sg => iM W S o.2) := by
  unfold k_Mo_leftBy_27
  exact z_ok_s hq

set_option maxHeartbeats 4000000 in
set_option maxRecDepth 100000 in
theorem t_f_Mo_leftBy (W : Nat) (S : z_SS) (x1 : Int64) (x3 : Int32) (x4 : Int32) (q : z_Sg) (hx3 : y_in x3 (0) (1)) (hx4 : y_in x4 (1) (8)) (hq : iM W S q) (hW : W + 0 ≤ 16) : z_ok (f_Mo_leftBy x1 x3 x4 q) (fun o : Int64 × z_Sg => iM W S o.2) := by
  unfold f_Mo_leftBy
  refine z_ok_b (t_f_Mo_top W S x1 x4 q hx4 hq (by omega)) (fun r1 hr1 => ?_)
  refine z_ok_G (z_bi hr1) ?_
  refine z_ok_n (fun q3 eq3 => ?_)
  have hq3 : iM W S q3 := by rw [eq3]; exact (iM_sI19 hq hr1)
  refine z_ok_b (t_f_Mo_lowest W S (z_lshl x1 (1 : Int32)) x4 q3 hx4 hq3 (by omega)) (fun r4 hr4 => ?_)
  refine z_ok_i (fun c234303 => ?_) (fun c234303 => ?_)
  · have z234304 : y_in x3 (0) (0) := z_w (z_eq1 c234303 (show y_in (0 : Int32) (0) (0) from ⟨by decide, by decide⟩)) (by decide) (by decide)
    exact t_k_Mo_leftBy_27 W S r4 (0 : Int64) q3 (z_lw (show y_il (0 : Int64) (0) (0) from ⟨by decide, by decide⟩) (by decide) (by decide)) hq3 hW
  · have z234305 : y_in x3 (1) (1) := z_w (z_ne1 c234303 hx3 (by decide)) (by decide) (by decide)
    exact t_k_Mo_leftBy_27 W S r4 (1 : Int64) q3 (z_lw (show y_il (1 : Int64) (1) (1) from ⟨by decide, by decide⟩) (by decide) (by decide)) hq3 hW

set_option maxHeartbeats 4000000 in
set_option maxRecDepth 100000 in
theorem t_k_Mo_shifted_174 (W : Nat) (S : z_SS) (x4 : Int32) (x5 : Int64) (q : z_Sg) (hx4 : y_in x4 (1) (8)) (hq : iM W S q) (hW : W + 0 ≤ 16) : z_ok (k_Mo_shifted_174 x4 x5 q) (fun o : Int64 × z_Sg => iM W S o.2) := by
  unfold k_Mo_shifted_174
  refine z_ok_b (t_f_Mo_leave W S (2 : Int32) q (z_w (show y_in (2 : Int32) (2) (2) from ⟨by decide, by decide⟩) (by decide) (by decide)) hq (by omega)) (fun r11 hr11 => ?_)
  refine z_ok_b (t_f_Mo_result W S x5 x4 r11 hx4 hr11 (by omega)) (fun r12 hr12 => ?_)
  exact z_ok_s hr12

set_option maxHeartbeats 4000000 in
set_option maxRecDepth 100000 in
theorem t_k_Mo_shifted_162 (W : Nat) (S : z_SS) (x3 : Int32) (x4 : Int32) (x5 : Int64) (t1 : Int32) (t2 : Int32) (q : z_Sg) (hx3 : y_in x3 (1) (63)) (hx4 : y_in x4 (1) (8)) (ht1 : y_in t1 (6) (6)) (ht2 : y_in t2 (0) (1)) (hq : iM W S q) (hW : W + 0 ≤ 16) : z_ok (k_Mo_shifted_162 x3 x4 x5 t1 t2 q) (fun o : Int64 × z_Sg => iM W S o.2) := by
  unfold k_Mo_shifted_162
  refine z_ok_g (z_nbad (z_w ht1 (by decide) (Int.le_refl _)) (by decide)) ?_
  refine z_ok_n (fun q9 eq9 => ?_)
  have hq9 : iM W S q9 := by rw [eq9]; exact (iM_sN1 hq)
  refine z_ok_i (fun c234306 => ?_) (fun c234306 => ?_)
  · have z234307 : y_in x3 (1) (1) := z_w (z_eq1 c234306 (show y_in (1 : Int32) (1) (1) from ⟨by decide, by decide⟩)) (by decide) (by decide)
    exact t_k_Mo_shifted_174 W S x4 x5 q9 hx4 hq9 hW
  · have z234308 : y_in x3 (2) (63) := z_w (z_ne1 c234306 hx3 (by decide)) (by decide) (by decide)
    refine z_ok_b (t_f_Mo_leave W S (6 : Int32) q9 (z_w (show y_in (6 : Int32) (6) (6) from ⟨by decide, by decide⟩) (by decide) (by decide)) hq9 (by omega)) (fun r13 hr13 => ?_)
    exact t_k_Mo_shifted_174 W S x4 x5 r13 hx4 hr13 hW

set_option maxHeartbeats 4000000 in
set_option maxRecDepth 100000 in
theorem t_k_Mo_shifted_161 (W : Nat) (S : z_SS) (x3 : Int32) (x4 : Int32) (x5 : Int64) (t1 : Int32) (q : z_Sg) (hx3 : y_in x3 (1) (63)) (hx4 : y_in x4 (1) (8)) (ht1 : y_in t1 (6) (6)) (hq : iM W S q) (hW : W + 0 ≤ 16) : z_ok (k_Mo_shifted_161 x3 x4 x5 t1 q) (fun o : Int64 × z_Sg => iM W S o.2) := by
  unfold k_Mo_shifted_161
  exact t_k_Mo_shifted_162 W S x3 x4 x5 t1 (0 : Int32) q hx3 hx4 ht1 (z_w (show y_in (0 : Int32) (0) (0) from ⟨by decide, by decide⟩) (by decide) (by decide)) hq hW

set_option maxHeartbeats 4000000 in
set_option maxRecDepth 100000 in
theorem t_k_Mo_shifted_108 (W : Nat) (S : z_SS) (x3 : Int32) (x4 : Int32) (x5 : Int64) (x7 : Int32) (q : z_Sg) (hx3 : y_in x3 (1) (63)) (hx4 : y_in x4 (1) (8)) (hx7 : y_in x7 (0) (1)) (hq : iM W S q) (hW : W + 0 ≤ 16) : z_ok (k_Mo_shifted_108 x3 x4 x5 x7 q) (fun o : Int64 × z_Sg => iM W S o.2) := by
  unfold k_Mo_shifted_108
  refine z_ok_i (fun c234309 => ?_) (fun c234309 => ?_)
  · have z234310 : y_in (z_gI q 8) (4) (4) := z_w (z_eq1 c234309 (show y_in (4 : Int32) (4) (4) from ⟨by decide, by decide⟩)) (by decide) (by decide)
    refine z_ok_b (t_f_Mo_top W S x5 x4 q hx4 hq (by omega)) (fun r15 hr15 => ?_)
    refine z_ok_i (fun c234311 => ?_) (fun c234311 => ?_)
    · exact t_k_Mo_shifted_162 W S x3 x4 x5 (6 : Int32) (0 : Int32) q hx3 hx4 (show y_in (6 : Int32) (6) (6) from ⟨by decide, by decide⟩) (z_w (show y_in (0 : Int32) (0) (0) from ⟨by decide, by decide⟩) (by decide) (by decide)) hq hW
    · exact t_k_Mo_shifted_162 W S x3 x4 x5 (6 : Int32) (1 : Int32) q hx3 hx4 (show y_in (6 : Int32) (6) (6) from ⟨by decide, by decide⟩) (z_w (show y_in (1 : Int32) (1) (1) from ⟨by decide, by decide⟩) (by decide) (by decide)) hq hW
  · refine z_ok_i (fun c234312 => ?_) (fun c234312 => ?_)
    · have z234313 : y_in (z_gI q 8) (5) (5) := z_w (z_eq1 c234312 (show y_in (5 : Int32) (5) (5) from ⟨by decide, by decide⟩)) (by decide) (by decide)
      refine z_ok_i (fun c234314 => ?_) (fun c234314 => ?_)
      · have z234315 : y_in x7 (0) (0) := z_w (z_eq1 c234314 (show y_in (0 : Int32) (0) (0) from ⟨by decide, by decide⟩)) (by decide) (by decide)
        exact t_k_Mo_shifted_161 W S x3 x4 x5 (6 : Int32) q hx3 hx4 (show y_in (6 : Int32) (6) (6) from ⟨by decide, by decide⟩) hq hW
      · have z234316 : y_in x7 (1) (1) := z_w (z_ne1 c234314 hx7 (by decide)) (by decide) (by decide)
        exact t_k_Mo_shifted_162 W S x3 x4 x5 (6 : Int32) (1 : Int32) q hx3 hx4 (show y_in (6 : Int32) (6) (6) from ⟨by decide, by decide⟩) (z_w (show y_in (1 : Int32) (1) (1) from ⟨by decide, by decide⟩) (by decide) (by decide)) hq hW
    · exact t_k_Mo_shifted_161 W S x3 x4 x5 (6 : Int32) q hx3 hx4 (show y_in (6 : Int32) (6) (6) from ⟨by decide, by decide⟩) hq hW

set_option maxHeartbeats 4000000 in
set_option maxRecDepth 100000 in
theorem t_k_Mo_shifted_67 (W : Nat) (S : z_SS) (ih14 : Int32 × Int32 × Int64 × Int32 × Int32 × z_Sg → Option (Int64 × z_Sg)) (x3 : Int32) (x4 : Int32) (x7 : Int32) (x8 : Int32) (t0 : Int64) (q : z_Sg) (hi14 : ∀ (x3' : Int32) (x4' : Int32) (x5' : Int64) (x7' : Int32) (x8' : Int32) (q' : z_Sg), y_in x3' (1) (63) → y_in x4' (1) (8) → y_in x7' (0) (1) → y_in x8' (0) (64) → iM W S q' → (64 - x8'.toInt).toNat < (64 - x8.toInt).toNat → z_ok (ih14 (x3', x4', x5', x7', x8', q')) (fun o : Int64 × z_Sg => iM W S o.2)) (hx3 : y_in x3 (1) (63)) (hx4 : y_in x4 (1) (8)) (hx7 : y_in x7 (0) (1)) (hx8 : y_in x8 (0) (63)) (hq : iM W S q) (hW : W + 0 ≤ 16) : z_ok (k_Mo_shifted_67 ih14 x3 x4 x7 x8 t0 q) (fun o : Int64 × z_Sg => iM W S o.2) := by
  unfold k_Mo_shifted_67
  refine z_ok_n (fun n22 en22 => ?_)
  have hn22 : y_in n22 (1) (64) := z_e en22 (z_w (a' := 1) (b' := 64) (z_add hx8 (show y_in (1 : Int32) (1) (1) from ⟨by decide, by decide⟩) (by decide) (by decide)) (by decide) (by decide))
  exact hi14 x3 x4 t0 x7 n22 q hx3 hx4 hx7 (z_w hn22 (by decide) (by decide)) hq (z_mu (64) 1 hx8 en22 (by decide) (by decide) (by decide) (by decide))

set_option maxHeartbeats 4000000 in
set_option maxRecDepth 100000 in
theorem t_k_Mo_shifted_62 (W : Nat) (S : z_SS) (ih14 : Int32 × Int32 × Int64 × Int32 × Int32 × z_Sg → Option (Int64 × z_Sg)) (x3 : Int32) (x4 : Int32) (x7 : Int32) (x8 : Int32) (t1 : Int64) (t2 : Int32) (q : z_Sg) (hi14 : ∀ (x3' : Int32) (x4' : Int32) (x5' : Int64) (x7' : Int32) (x8' : Int32) (q' : z_Sg), y_in x3' (1) (63) → y_in x4' (1) (8) → y_in x7' (0) (1) → y_in x8' (0) (64) → iM W S q' → (64 - x8'.toInt).toNat < (64 - x8.toInt).toNat → z_ok (ih14 (x3', x4', x5', x7', x8', q')) (fun o : Int64 × z_Sg => iM W S o.2)) (hx3 : y_in x3 (1) (63)) (hx4 : y_in x4 (1) (8)) (hx7 : y_in x7 (0) (1)) (hx8 : y_in x8 (0) (63)) (ht2 : y_in t2 (0) (1)) (hq : iM W S q) (hW : W + 0 ≤ 16) : z_ok (k_Mo_shifted_62 ih14 x3 x4 x7 x8 t1 t2 q) (fun o : Int64 × z_Sg => iM W S o.2) := by
  unfold k_Mo_shifted_62
  refine z_ok_b (t_f_Mo_rightBy W S t1 t2 x4 q ht2 hx4 hq (by omega)) (fun r21 hr21 => ?_)
  exact t_k_Mo_shifted_67 W S ih14 x3 x4 x7 x8 r21.1 r21.2 hi14 hx3 hx4 hx7 hx8 hr21 hW

set_option maxHeartbeats 4000000 in
set_option maxRecDepth 100000 in
theorem t_k_Mo_shifted_61 (W : Nat) (S : z_SS) (ih14 : Int32 × Int32 × Int64 × Int32 × Int32 × z_Sg → Option (Int64 × z_Sg)) (x3 : Int32) (x4 : Int32) (x7 : Int32) (x8 : Int32) (t1 : Int64) (q : z_Sg) (hi14 : ∀ (x3' : Int32) (x4' : Int32) (x5' : Int64) (x7' : Int32) (x8' : Int32) (q' : z_Sg), y_in x3' (1) (63) → y_in x4' (1) (8) → y_in x7' (0) (1) → y_in x8' (0) (64) → iM W S q' → (64 - x8'.toInt).toNat < (64 - x8.toInt).toNat → z_ok (ih14 (x3', x4', x5', x7', x8', q')) (fun o : Int64 × z_Sg => iM W S o.2)) (hx3 : y_in x3 (1) (63)) (hx4 : y_in x4 (1) (8)) (hx7 : y_in x7 (0) (1)) (hx8 : y_in x8 (0) (63)) (hq : iM W S q) (hW : W + 0 ≤ 16) : z_ok (k_Mo_shifted_61 ih14 x3 x4 x7 x8 t1 q) (fun o : Int64 × z_Sg => iM W S o.2) := by
  unfold k_Mo_shifted_61
  exact t_k_Mo_shifted_62 W S ih14 x3 x4 x7 x8 t1 (0 : Int32) q hi14 hx3 hx4 hx7 hx8 (z_w (show y_in (0 : Int32) (0) (0) from ⟨by decide, by decide⟩) (by decide) (by decide)) hq hW

set_option maxHeartbeats 4000000 in
set_option maxRecDepth 100000 in
theorem t_kb_Mo_shifted_14 (W : Nat) (S : z_SS) (ih14 : Int32 × Int32 × Int64 × Int32 × Int32 × z_Sg → Option (Int64 × z_Sg)) (x3 : Int32) (x4 : Int32) (x5 : Int64) (x7 : Int32) (x8 : Int32) (q : z_Sg) (hi14 : ∀ (x3' : Int32) (x4' : Int32) (x5' : Int64) (x7' : Int32) (x8' : Int32) (q' : z_Sg), y_in x3' (1) (63) → y_in x4' (1) (8) → y_in x7' (0) (1) → y_in x8' (0) (64) → iM W S q' → (64 - x8'.toInt).toNat < (64 - x8.toInt).toNat → z_ok (ih14 (x3', x4', x5', x7', x8', q')) (fun o : Int64 × z_Sg => iM W S o.2)) (hx3 : y_in x3 (1) (63)) (hx4 : y_in x4 (1) (8)) (hx7 : y_in x7 (0) (1)) (hx8 : y_in x8 (0) (64)) (hq : iM W S q) (hW : W + 0 ≤ 16) : z_ok (kb_Mo_shifted_14 ih14 x3 x4 x5 x7 x8 q) (fun o : Int64 × z_Sg => iM W S o.2) := by
  unfold kb_Mo_shifted_14
  refine z_ok_i (fun c234317 => ?_) (fun c234317 => ?_)
  · have z234318 : y_in x8 (1) (64) := z_w (z_le2 c234317 hx3 hx8) (by decide) (by decide)
    refine z_ok_g (z_nbad (show y_in (0 : Int32) (0) (0) from ⟨by decide, by decide⟩) (by decide)) ?_
    refine z_ok_n (fun q4 eq4 => ?_)
    have hq4 : iM W S q4 := by rw [eq4]; exact (iM_sN1 hq)
    refine z_ok_i (fun c234319 => ?_) (fun c234319 => ?_)
    · exact t_k_Mo_shifted_108 W S x3 x4 x5 x7 q4 hx3 hx4 hx7 hq4 hW
    · have z234320 : y_in x3 (9) (63) := z_w (z_nle1 c234319 hx3 (z_w (a' := 8) (b' := 64) (z_mul (show y_in (8 : Int32) (8) (8) from ⟨by decide, by decide⟩) hx4 (by decide) (by decide) (by decide)) (by decide) (by decide))) (by decide) (by decide)
      have z234321 : y_in ((8 : Int32) * x4) (8) (62) := z_w (z_nle2 c234319 hx3 (z_w (a' := 8) (b' := 64) (z_mul (show y_in (8 : Int32) (8) (8) from ⟨by decide, by decide⟩) hx4 (by decide) (by decide) (by decide)) (by decide) (by decide))) (by decide) (by decide)
      refine z_ok_i (fun c234322 => ?_) (fun c234322 => ?_)
      · have z234323 : y_in (z_gI q4 8) (7) (7) := z_w (z_eq1 c234322 (show y_in (7 : Int32) (7) (7) from ⟨by decide, by decide⟩)) (by decide) (by decide)
        exact t_k_Mo_shifted_108 W S x3 x4 x5 x7 q4 (z_w z234320 (by decide) (by decide)) hx4 hx7 hq4 hW
      · have z234324 : y_in (z_gI q4 8) (0) (6) := z_w (z_ne2 c234322 (iM_f8 hq4) (by decide)) (by decide) (by decide)
        refine z_ok_b (t_f_Mo_leave W S (0 : Int32) q4 (z_w (show y_in (0 : Int32) (0) (0) from ⟨by decide, by decide⟩) (by decide) (by decide)) hq4 (by omega)) (fun r18 hr18 => ?_)
        exact t_k_Mo_shifted_108 W S x3 x4 x5 x7 r18 (z_w z234320 (by decide) (by decide)) hx4 hx7 hr18 hW
  · have z234325 : y_in x8 (0) (62) := z_w (z_nle2 c234317 hx3 hx8) (by decide) (by decide)
    refine z_ok_i (fun c234326 => ?_) (fun c234326 => ?_)
    · have z234327 : y_in (z_gI q 8) (4) (4) := z_w (z_eq1 c234326 (show y_in (4 : Int32) (4) (4) from ⟨by decide, by decide⟩)) (by decide) (by decide)
      refine z_ok_b (t_f_Mo_leftBy W S x5 (0 : Int32) x4 q (z_w (show y_in (0 : Int32) (0) (0) from ⟨by decide, by decide⟩) (by decide) (by decide)) hx4 hq (by omega)) (fun r24 hr24 => ?_)
      exact t_k_Mo_shifted_67 W S ih14 x3 x4 x7 x8 r24.1 r24.2 hi14 hx3 hx4 hx7 (z_w z234325 (by decide) (by decide)) hr24 hW
    · refine z_ok_i (fun c234328 => ?_) (fun c234328 => ?_)
      · have z234329 : y_in (z_gI q 8) (7) (7) := z_w (z_eq1 c234328 (show y_in (7 : Int32) (7) (7) from ⟨by decide, by decide⟩)) (by decide) (by decide)
        refine z_ok_i (fun c234330 => ?_) (fun c234330 => ?_)
        · have z234331 : y_in x7 (0) (0) := z_w (z_eq1 c234330 (show y_in (0 : Int32) (0) (0) from ⟨by decide, by decide⟩)) (by decide) (by decide)
          exact t_k_Mo_shifted_61 W S ih14 x3 x4 x7 x8 x5 q hi14 hx3 hx4 (z_w z234331 (by decide) (by decide)) (z_w z234325 (by decide) (by decide)) hq hW
        · have z234332 : y_in x7 (1) (1) := z_w (z_ne1 c234330 hx7 (by decide)) (by decide) (by decide)
          exact t_k_Mo_shifted_62 W S ih14 x3 x4 x7 x8 x5 (1 : Int32) q hi14 hx3 hx4 (z_w z234332 (by decide) (by decide)) (z_w z234325 (by decide) (by decide)) (z_w (show y_in (1 : Int32) (1) (1) from ⟨by decide, by decide⟩) (by decide) (by decide)) hq hW
      · have z234333 : y_in (z_gI q 8) (0) (6) := z_w (z_ne2 c234328 (iM_f8 hq) (by decide)) (by decide) (by decide)
        exact t_k_Mo_shifted_61 W S ih14 x3 x4 x7 x8 x5 q hi14 hx3 hx4 hx7 (z_w z234325 (by decide) (by decide)) hq hW

set_option maxHeartbeats 4000000 in
set_option maxRecDepth 100000 in
theorem t_k_Mo_shifted_14 (W : Nat) (S : z_SS) (x3 : Int32) (x4 : Int32) (x5 : Int64) (x7 : Int32) (x8 : Int32) (q : z_Sg) (hx3 : y_in x3 (1) (63)) (hx4 : y_in x4 (1) (8)) (hx7 : y_in x7 (0) (1)) (hx8 : y_in x8 (0) (0)) (hq : iM W S q) (hW : W + 0 ≤ 16) : z_ok (k_Mo_shifted_14 x3 x4 x5 x7 x8 q) (fun o : Int64 × z_Sg => iM W S o.2) := by
  unfold k_Mo_shifted_14
  refine z_ok_l (fun a : Int32 × Int32 × Int64 × Int32 × Int32 × z_Sg => y_in a.1 (1) (63) ∧ y_in a.2.1 (1) (8) ∧ y_in a.2.2.2.1 (0) (1) ∧ y_in a.2.2.2.2.1 (0) (64) ∧ iM W S a.2.2.2.2.2) (fun a => (64 - a.2.2.2.2.1.toInt).toNat) ?_ (x3, x4, x5, x7, x8, q) ⟨hx3, hx4, hx7, (z_w hx8 (by decide) (by decide)), hq⟩ (by show ((64 - x8.toInt).toNat) < 2000; have z1 := hx8.1; have z2 := hx8.2; omega)
  intro ih a ha hih
  exact t_kb_Mo_shifted_14 W S ih a.1 a.2.1 a.2.2.1 a.2.2.2.1 a.2.2.2.2.1 a.2.2.2.2.2 (fun x3' x4' x5' x7' x8' q' hx3' hx4' hx7' hx8' hq' hm => hih (x3', x4', x5', x7', x8', q') ⟨hx3', hx4', hx7', hx8', hq'⟩ hm) ha.1 ha.2.1 ha.2.2.1 ha.2.2.2.1 ha.2.2.2.2 hW

set_option maxHeartbeats 4000000 in
set_option maxRecDepth 100000 in
theorem t_f_Mo_shifted (W : Nat) (S : z_SS) (x1 : Int64) (x3 : Int32) (x4 : Int32) (q : z_Sg) (hx3 : y_in x3 (1) (63)) (hx4 : y_in x4 (1) (8)) (hq : iM W S q) (hW : W + 0 ≤ 16) : z_ok (f_Mo_shifted x1 x3 x4 q) (fun o : Int64 × z_Sg => iM W S o.2) := by
  unfold f_Mo_shifted
  refine z_ok_b (t_f_Mo_top W S x1 x4 q hx4 hq (by omega)) (fun r1 hr1 => ?_)
  exact t_k_Mo_shifted_14 W S x3 x4 x1 r1 (0 : Int32) q hx3 hx4 hr1 (show y_in (0 : Int32) (0) (0) from ⟨by decide, by decide⟩) hq hW

set_option maxHeartbeats 4000000 in
set_option maxRecDepth 100000 in
theorem t_k_Mo_rotated_281 (W : Nat) (S : z_SS) (x7 : Int64) (q : z_Sg) (hq : iM W S q) (hW : W + 0 ≤ 16) : z_ok (k_Mo_rotated_281 x7 q) (fun o : Int64 × z_Sg => iM W S o.2) := by
  unfold k_Mo_rotated_281
  exact z_ok_s hq

set_option maxHeartbeats 4000000 in
set_option maxRecDepth 100000 in
theorem t_k_Mo_rotated_269 (W : Nat) (S : z_SS) (x3 : Int32) (x7 : Int64) (t1 : Int32) (t2 : Int32) (q : z_Sg) (hx3 : y_in x3 (1) (63)) (ht1 : y_in t1 (6) (6)) (ht2 : y_in t2 (0) (1)) (hq : iM W S q) (hW : W + 0 ≤ 16) : z_ok (k_Mo_rotated_269 x3 x7 t1 t2 q) (fun o : Int64 × z_Sg => iM W S o.2) := by
  unfold k_Mo_rotated_269
  refine z_ok_g (z_nbad (z_w ht1 (by decide) (Int.le_refl _)) (by decide)) ?_
  refine z_ok_n (fun q11 eq11 => ?_)
  have hq11 : iM W S q11 := by rw [eq11]; exact (iM_sN1 hq)
  refine z_ok_i (fun c234334 => ?_) (fun c234334 => ?_)
  · have z234335 : y_in x3 (1) (1) := z_w (z_eq1 c234334 (show y_in (1 : Int32) (1) (1) from ⟨by decide, by decide⟩)) (by decide) (by decide)
    exact t_k_Mo_rotated_281 W S x7 q11 hq11 hW
  · have z234336 : y_in x3 (2) (63) := z_w (z_ne1 c234334 hx3 (by decide)) (by decide) (by decide)
    refine z_ok_b (t_f_Mo_leave W S (6 : Int32) q11 (z_w (show y_in (6 : Int32) (6) (6) from ⟨by decide, by decide⟩) (by decide) (by decide)) hq11 (by omega)) (fun r13 hr13 => ?_)
    exact t_k_Mo_rotated_281 W S x7 r13 hr13 hW

set_option maxHeartbeats 4000000 in
set_option maxRecDepth 100000 in
theorem t_k_Mo_rotated_261 (W : Nat) (S : z_SS) (x3 : Int32) (x7 : Int64) (t1 : Int32) (t2 : Int32) (t3 : Int32) (q : z_Sg) (hx3 : y_in x3 (1) (63)) (ht1 : y_in t1 (6) (6)) (ht2 : y_in t2 (0) (1)) (ht3 : y_in t3 (0) (1)) (hq : iM W S q) (hW : W + 0 ≤ 16) : z_ok (k_Mo_rotated_261 x3 x7 t1 t2 t3 q) (fun o : Int64 × z_Sg => iM W S o.2) := by
  unfold k_Mo_rotated_261
  refine z_ok_i (fun c234337 => ?_) (fun c234337 => ?_)
  · exact t_k_Mo_rotated_269 W S x3 x7 t1 (0 : Int32) q hx3 ht1 (z_w (show y_in (0 : Int32) (0) (0) from ⟨by decide, by decide⟩) (by decide) (by decide)) hq hW
  · exact t_k_Mo_rotated_269 W S x3 x7 t1 (1 : Int32) q hx3 ht1 (z_w (show y_in (1 : Int32) (1) (1) from ⟨by decide, by decide⟩) (by decide) (by decide)) hq hW

set_option maxHeartbeats 4000000 in
set_option maxRecDepth 100000 in
theorem t_k_Mo_rotated_230 (W : Nat) (S : z_SS) (x3 : Int32) (x4 : Int32) (x5 : Int32) (x7 : Int64) (t0 : Int32) (q : z_Sg) (hx3 : y_in x3 (1) (63)) (hx4 : y_in x4 (1) (8)) (hx5 : y_in x5 (0) (1)) (ht0 : y_in t0 (0) (1)) (hq : iM W S q) (hW : W + 0 ≤ 16) : z_ok (k_Mo_rotated_230 x3 x4 x5 x7 t0 q) (fun o : Int64 × z_Sg => iM W S o.2) := by
  unfold k_Mo_rotated_230
  refine z_ok_b (t_f_Mo_top W S x7 x4 q hx4 hq (by omega)) (fun r7 hr7 => ?_)
  refine z_ok_i (fun c234338 => ?_) (fun c234338 => ?_)
  · have z234339 : y_in x5 (0) (0) := z_w (z_eq1 c234338 (show y_in (0 : Int32) (0) (0) from ⟨by decide, by decide⟩)) (by decide) (by decide)
    exact t_k_Mo_rotated_261 W S x3 x7 (6 : Int32) r7 t0 q hx3 (show y_in (6 : Int32) (6) (6) from ⟨by decide, by decide⟩) hr7 ht0 hq hW
  · have z234340 : y_in x5 (1) (1) := z_w (z_ne1 c234338 hx5 (by decide)) (by decide) (by decide)
    refine z_ok_g (z_nbad (show y_in (0 : Int32) (0) (0) from ⟨by decide, by decide⟩) (by decide)) ?_
    exact t_k_Mo_rotated_261 W S x3 x7 (6 : Int32) r7 (z_gN q 1 (0 : Int32).toNatClampNeg) q hx3 (show y_in (6 : Int32) (6) (6) from ⟨by decide, by decide⟩) hr7 (iM_n1 hq _) hq hW

set_option maxHeartbeats 4000000 in
set_option maxRecDepth 100000 in
theorem t_k_Mo_rotated_208 (W : Nat) (S : z_SS) (x3 : Int32) (x4 : Int32) (x5 : Int32) (x7 : Int64) (q : z_Sg) (hx3 : y_in x3 (1) (63)) (hx4 : y_in x4 (1) (8)) (hx5 : y_in x5 (0) (1)) (hq : iM W S q) (hW : W + 0 ≤ 16) : z_ok (k_Mo_rotated_208 x3 x4 x5 x7 q) (fun o : Int64 × z_Sg => iM W S o.2) := by
  unfold k_Mo_rotated_208
  refine z_ok_i (fun c234341 => ?_) (fun c234341 => ?_)
  · exact t_k_Mo_rotated_230 W S x3 x4 x5 x7 (1 : Int32) q hx3 hx4 hx5 (z_w (show y_in (1 : Int32) (1) (1) from ⟨by decide, by decide⟩) (by decide) (by decide)) hq hW
  · exact t_k_Mo_rotated_230 W S x3 x4 x5 x7 (0 : Int32) q hx3 hx4 hx5 (z_w (show y_in (0 : Int32) (0) (0) from ⟨by decide, by decide⟩) (by decide) (by decide)) hq hW

set_option maxHeartbeats 4000000 in
set_option maxRecDepth 100000 in
theorem t_k_Mo_rotated_187 (W : Nat) (S : z_SS) (x3 : Int32) (x4 : Int32) (x5 : Int32) (x7 : Int64) (q : z_Sg) (hx3 : y_in x3 (1) (63)) (hx4 : y_in x4 (1) (8)) (hx5 : y_in x5 (0) (1)) (hq : iM W S q) (hW : W + 0 ≤ 16) : z_ok (k_Mo_rotated_187 x3 x4 x5 x7 q) (fun o : Int64 × z_Sg => iM W S o.2) := by
  unfold k_Mo_rotated_187
  refine z_ok_i (fun c234342 => ?_) (fun c234342 => ?_)
  · have z234343 : y_in (z_gI q 8) (1) (1) := z_w (z_eq1 c234342 (show y_in (1 : Int32) (1) (1) from ⟨by decide, by decide⟩)) (by decide) (by decide)
    refine z_ok_b (t_f_Mo_top W S x7 x4 q hx4 hq (by omega)) (fun r15 hr15 => ?_)
    refine z_ok_g (z_nbad (show y_in (0 : Int32) (0) (0) from ⟨by decide, by decide⟩) (by decide)) ?_
    refine z_ok_n (fun q17 eq17 => ?_)
    have hq17 : iM W S q17 := by rw [eq17]; exact (iM_sN1 hq)
    exact t_k_Mo_rotated_208 W S x3 x4 x5 x7 q17 hx3 hx4 hx5 hq17 hW
  · exact t_k_Mo_rotated_208 W S x3 x4 x5 x7 q hx3 hx4 hx5 hq hW

set_option maxHeartbeats 4000000 in
set_option maxRecDepth 100000 in
theorem t_k_Mo_rotated_186 (W : Nat) (S : z_SS) (x3 : Int32) (x4 : Int32) (x5 : Int32) (x7 : Int64) (t1 : Int32) (t2 : Int32) (q : z_Sg) (hx3 : y_in x3 (1) (63)) (hx4 : y_in x4 (1) (8)) (hx5 : y_in x5 (0) (1)) (ht1 : y_in t1 (0) (0)) (ht2 : y_in t2 (0) (1)) (hq : iM W S q) (hW : W + 0 ≤ 16) : z_ok (k_Mo_rotated_186 x3 x4 x5 x7 t1 t2 q) (fun o : Int64 × z_Sg => iM W S o.2) := by
  unfold k_Mo_rotated_186
  refine z_ok_g (z_nbad ht1 (by decide)) ?_
  refine z_ok_n (fun q20 eq20 => ?_)
  have hq20 : iM W S q20 := by rw [eq20]; exact (iM_sN1 hq)
  exact t_k_Mo_rotated_187 W S x3 x4 x5 x7 q20 hx3 hx4 hx5 hq20 hW

set_option maxHeartbeats 4000000 in
set_option maxRecDepth 100000 in
theorem t_k_Mo_rotated_154 (W : Nat) (S : z_SS) (ih51 : Int32 × Int32 × Int32 × Int32 × Int64 × Int32 × z_Sg → Option (Int64 × z_Sg)) (x3 : Int32) (x4 : Int32) (x5 : Int32) (x6 : Int32) (x7 : Int64) (x9 : Int32) (q : z_Sg) (hi51 : ∀ (x3' : Int32) (x4' : Int32) (x5' : Int32) (x6' : Int32) (x7' : Int64) (x9' : Int32) (q' : z_Sg), y_in x3' (1) (63) → y_in x4' (1) (8) → y_in x5' (0) (1) → y_in x6' (0) (63) → y_in x9' (0) (64) → iM W S q' → (64 - x9'.toInt).toNat < (64 - x9.toInt).toNat → z_ok (ih51 (x3', x4', x5', x6', x7', x9', q')) (fun o : Int64 × z_Sg => iM W S o.2)) (hx3 : y_in x3 (1) (63)) (hx4 : y_in x4 (1) (8)) (hx5 : y_in x5 (0) (1)) (hx6 : y_in x6 (1) (63)) (hx9 : y_in x9 (0) (63)) (hq : iM W S q) (hW : W + 0 ≤ 16) : z_ok (k_Mo_rotated_154 ih51 x3 x4 x5 x6 x7 x9 q) (fun o : Int64 × z_Sg => iM W S o.2) := by
  unfold k_Mo_rotated_154
  refine z_ok_n (fun n27 en27 => ?_)
  have hn27 : y_in n27 (1) (64) := z_e en27 (z_w (a' := 1) (b' := 64) (z_add hx9 (show y_in (1 : Int32) (1) (1) from ⟨by decide, by decide⟩) (by decide) (by decide)) (by decide) (by decide))
  exact hi51 x3 x4 x5 x6 x7 n27 q hx3 hx4 hx5 (z_w hx6 (by decide) (by decide)) (z_w hn27 (by decide) (by decide)) hq (z_mu (64) 1 hx9 en27 (by decide) (by decide) (by decide) (by decide))

set_option maxHeartbeats 4000000 in
set_option maxRecDepth 100000 in
theorem t_k_Mo_rotated_134 (W : Nat) (S : z_SS) (ih51 : Int32 × Int32 × Int32 × Int32 × Int64 × Int32 × z_Sg → Option (Int64 × z_Sg)) (x3 : Int32) (x4 : Int32) (x5 : Int32) (x6 : Int32) (x9 : Int32) (t0 : Int64) (q : z_Sg) (hi51 : ∀ (x3' : Int32) (x4' : Int32) (x5' : Int32) (x6' : Int32) (x7' : Int64) (x9' : Int32) (q' : z_Sg), y_in x3' (1) (63) → y_in x4' (1) (8) → y_in x5' (0) (1) → y_in x6' (0) (63) → y_in x9' (0) (64) → iM W S q' → (64 - x9'.toInt).toNat < (64 - x9.toInt).toNat → z_ok (ih51 (x3', x4', x5', x6', x7', x9', q')) (fun o : Int64 × z_Sg => iM W S o.2)) (hx3 : y_in x3 (1) (63)) (hx4 : y_in x4 (1) (8)) (hx5 : y_in x5 (0) (1)) (hx6 : y_in x6 (1) (63)) (hx9 : y_in x9 (0) (63)) (hq : iM W S q) (hW : W + 0 ≤ 16) : z_ok (k_Mo_rotated_134 ih51 x3 x4 x5 x6 x9 t0 q) (fun o : Int64 × z_Sg => iM W S o.2) := by
  unfold k_Mo_rotated_134
  refine z_ok_i (fun c234344 => ?_) (fun c234344 => ?_)
  · have z234345 : y_in (z_gI q 8) (0) (1) := z_w (z_le1 c234344 (iM_f8 hq) (show y_in (1 : Int32) (1) (1) from ⟨by decide, by decide⟩)) (by decide) (by decide)
    exact t_k_Mo_rotated_154 W S ih51 x3 x4 x5 x6 t0 x9 q hi51 hx3 hx4 hx5 hx6 hx9 hq hW
  · have z234346 : y_in (z_gI q 8) (2) (7) := z_w (z_nle1 c234344 (iM_f8 hq) (show y_in (1 : Int32) (1) (1) from ⟨by decide, by decide⟩)) (by decide) (by decide)
    refine z_ok_g (z_nbad (show y_in (0 : Int32) (0) (0) from ⟨by decide, by decide⟩) (by decide)) ?_
    refine z_ok_n (fun q29 eq29 => ?_)
    have hq29 : iM W S q29 := by rw [eq29]; exact (iM_sN1 hq)
    exact t_k_Mo_rotated_154 W S ih51 x3 x4 x5 x6 t0 x9 q29 hi51 hx3 hx4 hx5 hx6 hx9 hq29 hW

set_option maxHeartbeats 4000000 in
set_option maxRecDepth 100000 in
theorem t_k_Mo_rotated_104 (W : Nat) (S : z_SS) (ih51 : Int32 × Int32 × Int32 × Int32 × Int64 × Int32 × z_Sg → Option (Int64 × z_Sg)) (x3 : Int32) (x4 : Int32) (x5 : Int32) (x6 : Int32) (x7 : Int64) (x9 : Int32) (t0 : Int32) (q : z_Sg) (hi51 : ∀ (x3' : Int32) (x4' : Int32) (x5' : Int32) (x6' : Int32) (x7' : Int64) (x9' : Int32) (q' : z_Sg), y_in x3' (1) (63) → y_in x4' (1) (8) → y_in x5' (0) (1) → y_in x6' (0) (63) → y_in x9' (0) (64) → iM W S q' → (64 - x9'.toInt).toNat < (64 - x9.toInt).toNat → z_ok (ih51 (x3', x4', x5', x6', x7', x9', q')) (fun o : Int64 × z_Sg => iM W S o.2)) (hx3 : y_in x3 (1) (63)) (hx4 : y_in x4 (1) (8)) (hx5 : y_in x5 (0) (1)) (hx6 : y_in x6 (1) (63)) (hx9 : y_in x9 (0) (63)) (ht0 : y_in t0 (0) (1)) (hq : iM W S q) (hW : W + 0 ≤ 16) : z_ok (k_Mo_rotated_104 ih51 x3 x4 x5 x6 x7 x9 t0 q) (fun o : Int64 × z_Sg => iM W S o.2) := by
  unfold k_Mo_rotated_104
  refine z_ok_i (fun c234347 => ?_) (fun c234347 => ?_)
  · have z234348 : y_in x5 (0) (0) := z_w (z_eq1 c234347 (show y_in (0 : Int32) (0) (0) from ⟨by decide, by decide⟩)) (by decide) (by decide)
    refine z_ok_b (t_f_Mo_rightBy W S x7 t0 x4 q ht0 hx4 hq (by omega)) (fun r25 hr25 => ?_)
    exact t_k_Mo_rotated_134 W S ih51 x3 x4 x5 x6 x9 r25.1 r25.2 hi51 hx3 hx4 (z_w z234348 (by decide) (by decide)) hx6 hx9 hr25 hW
  · have z234349 : y_in x5 (1) (1) := z_w (z_ne1 c234347 hx5 (by decide)) (by decide) (by decide)
    refine z_ok_b (t_f_Mo_leftBy W S x7 t0 x4 q ht0 hx4 hq (by omega)) (fun r30 hr30 => ?_)
    exact t_k_Mo_rotated_134 W S ih51 x3 x4 x5 x6 x9 r30.1 r30.2 hi51 hx3 hx4 (z_w z234349 (by decide) (by decide)) hx6 hx9 hr30 hW

set_option maxHeartbeats 4000000 in
set_option maxRecDepth 100000 in
theorem t_kb_Mo_rotated_51 (W : Nat) (S : z_SS) (ih51 : Int32 × Int32 × Int32 × Int32 × Int64 × Int32 × z_Sg → Option (Int64 × z_Sg)) (x3 : Int32) (x4 : Int32) (x5 : Int32) (x6 : Int32) (x7 : Int64) (x9 : Int32) (q : z_Sg) (hi51 : ∀ (x3' : Int32) (x4' : Int32) (x5' : Int32) (x6' : Int32) (x7' : Int64) (x9' : Int32) (q' : z_Sg), y_in x3' (1) (63) → y_in x4' (1) (8) → y_in x5' (0) (1) → y_in x6' (0) (63) → y_in x9' (0) (64) → iM W S q' → (64 - x9'.toInt).toNat < (64 - x9.toInt).toNat → z_ok (ih51 (x3', x4', x5', x6', x7', x9', q')) (fun o : Int64 × z_Sg => iM W S o.2)) (hx3 : y_in x3 (1) (63)) (hx4 : y_in x4 (1) (8)) (hx5 : y_in x5 (0) (1)) (hx6 : y_in x6 (0) (63)) (hx9 : y_in x9 (0) (64)) (hq : iM W S q) (hW : W + 0 ≤ 16) : z_ok (kb_Mo_rotated_51 ih51 x3 x4 x5 x6 x7 x9 q) (fun o : Int64 × z_Sg => iM W S o.2) := by
  unfold kb_Mo_rotated_51
  refine z_ok_i (fun c234350 => ?_) (fun c234350 => ?_)
  · refine z_ok_i (fun c234351 => ?_) (fun c234351 => ?_)
    · have z234352 : y_in (z_gI q 8) (0) (0) := z_w (z_eq1 c234351 (show y_in (0 : Int32) (0) (0) from ⟨by decide, by decide⟩)) (by decide) (by decide)
      refine z_ok_i (fun c234353 => ?_) (fun c234353 => ?_)
      · exact t_k_Mo_rotated_186 W S x3 x4 x5 x7 (0 : Int32) (1 : Int32) q hx3 hx4 hx5 (show y_in (0 : Int32) (0) (0) from ⟨by decide, by decide⟩) (z_w (show y_in (1 : Int32) (1) (1) from ⟨by decide, by decide⟩) (by decide) (by decide)) hq hW
      · exact t_k_Mo_rotated_186 W S x3 x4 x5 x7 (0 : Int32) (0 : Int32) q hx3 hx4 hx5 (show y_in (0 : Int32) (0) (0) from ⟨by decide, by decide⟩) (z_w (show y_in (0 : Int32) (0) (0) from ⟨by decide, by decide⟩) (by decide) (by decide)) hq hW
    · have z234354 : y_in (z_gI q 8) (1) (7) := z_w (z_ne1 c234351 (iM_f8 hq) (by decide)) (by decide) (by decide)
      exact t_k_Mo_rotated_187 W S x3 x4 x5 x7 q hx3 hx4 hx5 hq hW
  · have z234355 : y_in x6 (1) (63) := z_w (z_nle1 c234350 hx6 hx9) (by decide) (by decide)
    have z234356 : y_in x9 (0) (62) := z_w (z_nle2 c234350 hx6 hx9) (by decide) (by decide)
    refine z_ok_i (fun c234357 => ?_) (fun c234357 => ?_)
    · have z234358 : y_in (z_gI q 8) (0) (1) := z_w (z_le1 c234357 (iM_f8 hq) (show y_in (1 : Int32) (1) (1) from ⟨by decide, by decide⟩)) (by decide) (by decide)
      refine z_ok_i (fun c234359 => ?_) (fun c234359 => ?_)
      · have z234360 : y_in x5 (0) (0) := z_w (z_eq1 c234359 (show y_in (0 : Int32) (0) (0) from ⟨by decide, by decide⟩)) (by decide) (by decide)
        refine z_ok_i (fun c234361 => ?_) (fun c234361 => ?_)
        · exact t_k_Mo_rotated_104 W S ih51 x3 x4 x5 x6 x7 x9 (1 : Int32) q hi51 hx3 hx4 (z_w z234360 (by decide) (by decide)) z234355 (z_w z234356 (by decide) (by decide)) (z_w (show y_in (1 : Int32) (1) (1) from ⟨by decide, by decide⟩) (by decide) (by decide)) hq hW
        · exact t_k_Mo_rotated_104 W S ih51 x3 x4 x5 x6 x7 x9 (0 : Int32) q hi51 hx3 hx4 (z_w z234360 (by decide) (by decide)) z234355 (z_w z234356 (by decide) (by decide)) (z_w (show y_in (0 : Int32) (0) (0) from ⟨by decide, by decide⟩) (by decide) (by decide)) hq hW
      · have z234362 : y_in x5 (1) (1) := z_w (z_ne1 c234359 hx5 (by decide)) (by decide) (by decide)
        refine z_ok_b (t_f_Mo_top W S x7 x4 q hx4 hq (by omega)) (fun r31 hr31 => ?_)
        exact t_k_Mo_rotated_104 W S ih51 x3 x4 x5 x6 x7 x9 r31 q hi51 hx3 hx4 (z_w z234362 (by decide) (by decide)) z234355 (z_w z234356 (by decide) (by decide)) hr31 hq hW
    · have z234363 : y_in (z_gI q 8) (2) (7) := z_w (z_nle1 c234357 (iM_f8 hq) (show y_in (1 : Int32) (1) (1) from ⟨by decide, by decide⟩)) (by decide) (by decide)
      refine z_ok_g (z_nbad (show y_in (0 : Int32) (0) (0) from ⟨by decide, by decide⟩) (by decide)) ?_
      exact t_k_Mo_rotated_104 W S ih51 x3 x4 x5 x6 x7 x9 (z_gN q 1 (0 : Int32).toNatClampNeg) q hi51 hx3 hx4 hx5 z234355 (z_w z234356 (by decide) (by decide)) (iM_n1 hq _) hq hW

set_option maxHeartbeats 4000000 in
set_option maxRecDepth 100000 in
theorem t_k_Mo_rotated_51 (W : Nat) (S : z_SS) (x3 : Int32) (x4 : Int32) (x5 : Int32) (x6 : Int32) (x7 : Int64) (x9 : Int32) (q : z_Sg) (hx3 : y_in x3 (1) (63)) (hx4 : y_in x4 (1) (8)) (hx5 : y_in x5 (0) (1)) (hx6 : y_in x6 (0) (63)) (hx9 : y_in x9 (0) (0)) (hq : iM W S q) (hW : W + 0 ≤ 16) : z_ok (k_Mo_rotated_51 x3 x4 x5 x6 x7 x9 q) (fun o : Int64 × z_Sg => iM W S o.2) := by
  unfold k_Mo_rotated_51
  refine z_ok_l (fun a : Int32 × Int32 × Int32 × Int32 × Int64 × Int32 × z_Sg => y_in a.1 (1) (63) ∧ y_in a.2.1 (1) (8) ∧ y_in a.2.2.1 (0) (1) ∧ y_in a.2.2.2.1 (0) (63) ∧ y_in a.2.2.2.2.2.1 (0) (64) ∧ iM W S a.2.2.2.2.2.2) (fun a => (64 - a.2.2.2.2.2.1.toInt).toNat) ?_ (x3, x4, x5, x6, x7, x9, q) ⟨hx3, hx4, hx5, hx6, (z_w hx9 (by decide) (by decide)), hq⟩ (by show ((64 - x9.toInt).toNat) < 2000; have z1 := hx9.1; have z2 := hx9.2; omega)
  intro ih a ha hih
  exact t_kb_Mo_rotated_51 W S ih a.1 a.2.1 a.2.2.1 a.2.2.2.1 a.2.2.2.2.1 a.2.2.2.2.2.1 a.2.2.2.2.2.2 (fun x3' x4' x5' x6' x7' x9' q' hx3' hx4' hx5' hx6' hx9' hq' hm => hih (x3', x4', x5', x6', x7', x9', q') ⟨hx3', hx4', hx5', hx6', hx9', hq'⟩ hm) ha.1 ha.2.1 ha.2.2.1 ha.2.2.2.1 ha.2.2.2.2.1 ha.2.2.2.2.2 hW

set_option maxHeartbeats 4000000 in
set_option maxRecDepth 100000 in
theorem t_k_Mo_rotated_43 (W : Nat) (S : z_SS) (x1 : Int64) (x3 : Int32) (x4 : Int32) (x5 : Int32) (t0 : Int32) (q : z_Sg) (hx3 : y_in x3 (1) (63)) (hx4 : y_in x4 (1) (8)) (hx5 : y_in x5 (0) (1)) (ht0 : y_in t0 (0) (63)) (hq : iM W S q) (hW : W + 0 ≤ 16) : z_ok (k_Mo_rotated_43 x1 x3 x4 x5 t0 q) (fun o : Int64 × z_Sg => iM W S o.2) := by
  unfold k_Mo_rotated_43
  exact t_k_Mo_rotated_51 W S x3 x4 x5 t0 x1 (0 : Int32) q hx3 hx4 hx5 ht0 (show y_in (0 : Int32) (0) (0) from ⟨by decide, by decide⟩) hq hW

set_option maxHeartbeats 4000000 in
set_option maxRecDepth 100000 in
theorem t_k_Mo_rotated_42 (W : Nat) (S : z_SS) (x1 : Int64) (x3 : Int32) (x4 : Int32) (x5 : Int32) (q : z_Sg) (hx3 : y_in x3 (1) (63)) (hx4 : y_in x4 (1) (8)) (hx5 : y_in x5 (0) (1)) (hq : iM W S q) (hW : W + 0 ≤ 16) : z_ok (k_Mo_rotated_42 x1 x3 x4 x5 q) (fun o : Int64 × z_Sg => iM W S o.2) := by
  unfold k_Mo_rotated_42
  exact t_k_Mo_rotated_43 W S x1 x3 x4 x5 x3 q hx3 hx4 hx5 (z_w hx3 (by decide) (by decide)) hq hW

set_option maxHeartbeats 4000000 in
set_option maxRecDepth 100000 in
theorem t_k_Mo_rotated_14 (W : Nat) (S : z_SS) (x1 : Int64) (x3 : Int32) (x4 : Int32) (t0 : Int32) (q : z_Sg) (hx3 : y_in x3 (1) (63)) (hx4 : y_in x4 (1) (8)) (ht0 : y_in t0 (0) (1)) (hq : iM W S q) (hW : W + 0 ≤ 16) : z_ok (k_Mo_rotated_14 x1 x3 x4 t0 q) (fun o : Int64 × z_Sg => iM W S o.2) := by
  unfold k_Mo_rotated_14
  refine z_ok_i (fun c234364 => ?_) (fun c234364 => ?_)
  · have z234365 : y_in (z_gI q 8) (0) (1) := z_w (z_le1 c234364 (iM_f8 hq) (show y_in (1 : Int32) (1) (1) from ⟨by decide, by decide⟩)) (by decide) (by decide)
    exact t_k_Mo_rotated_42 W S x1 x3 x4 t0 q hx3 hx4 ht0 hq hW
  · have z234366 : y_in (z_gI q 8) (2) (7) := z_w (z_nle1 c234364 (iM_f8 hq) (show y_in (1 : Int32) (1) (1) from ⟨by decide, by decide⟩)) (by decide) (by decide)
    refine z_ok_i (fun c234367 => ?_) (fun c234367 => ?_)
    · have z234368 : y_in x4 (4) (8) := z_w (z_le2 c234367 (show y_in (4 : Int32) (4) (4) from ⟨by decide, by decide⟩) hx4) (by decide) (by decide)
      exact t_k_Mo_rotated_42 W S x1 x3 x4 t0 q hx3 (z_w z234368 (by decide) (by decide)) ht0 hq hW
    · have z234369 : y_in x4 (1) (3) := z_w (z_nle2 c234367 (show y_in (4 : Int32) (4) (4) from ⟨by decide, by decide⟩) hx4) (by decide) (by decide)
      refine z_ok_g (z_n0 (z_w (a' := 9) (b' := 25) (z_add (z_w (a' := 8) (b' := 24) (z_mul (show y_in (8 : Int32) (8) (8) from ⟨by decide, by decide⟩) z234369 (by decide) (by decide) (by decide)) (by decide) (by decide)) (show y_in (1 : Int32) (1) (1) from ⟨by decide, by decide⟩) (by decide) (by decide)) (by decide) (by decide)) (by decide)) ?_
      exact t_k_Mo_rotated_43 W S x1 x3 x4 t0 (x3 - ((x3 / (((8 : Int32) * x4) + (1 : Int32))) * (((8 : Int32) * x4) + (1 : Int32)))) q hx3 (z_w z234369 (by decide) (by decide)) ht0 (z_w (z_w (a' := 0) (b' := 24) (z_modv hx3 (z_w (a' := 9) (b' := 25) (z_add (z_w (a' := 8) (b' := 24) (z_mul (show y_in (8 : Int32) (8) (8) from ⟨by decide, by decide⟩) z234369 (by decide) (by decide) (by decide)) (by decide) (by decide)) (show y_in (1 : Int32) (1) (1) from ⟨by decide, by decide⟩) (by decide) (by decide)) (by decide) (by decide)) (by decide) (by decide)) (by decide) (by decide)) (by decide) (by decide)) hq hW

set_option maxHeartbeats 4000000 in
set_option maxRecDepth 100000 in
theorem t_f_Mo_rotated (W : Nat) (S : z_SS) (x1 : Int64) (x3 : Int32) (x4 : Int32) (q : z_Sg) (hx3 : y_in x3 (1) (63)) (hx4 : y_in x4 (1) (8)) (hq : iM W S q) (hW : W + 0 ≤ 16) : z_ok (f_Mo_rotated x1 x3 x4 q) (fun o : Int64 × z_Sg => iM W S o.2) := by
  unfold f_Mo_rotated
  refine z_ok_i (fun c234370 => ?_) (fun c234370 => ?_)
  · have z234371 : y_in ((z_gI q 8) - (((z_gI q 8) / (2 : Int32)) * (2 : Int32))) (0) (0) := z_w (z_eq1 c234370 (show y_in (0 : Int32) (0) (0) from ⟨by decide, by decide⟩)) (by decide) (by decide)
    exact t_k_Mo_rotated_14 W S x1 x3 x4 (1 : Int32) q hx3 hx4 (z_w (show y_in (1 : Int32) (1) (1) from ⟨by decide, by decide⟩) (by decide) (by decide)) hq hW
  · have z234372 : y_in ((z_gI q 8) - (((z_gI q 8) / (2 : Int32)) * (2 : Int32))) (1) (1) := z_w (z_ne1 c234370 (z_w (a' := 0) (b' := 1) (z_mod 2 (iM_f8 hq) (by decide) rfl (by decide) (by decide)) (by decide) (by decide)) (by decide)) (by decide) (by decide)
    exact t_k_Mo_rotated_14 W S x1 x3 x4 (0 : Int32) q hx3 hx4 (z_w (show y_in (0 : Int32) (0) (0) from ⟨by decide, by decide⟩) (by decide) (by decide)) hq hW

set_option maxHeartbeats 4000000 in
set_option maxRecDepth 100000 in
theorem t_k_Mo_shift_148 (W : Nat) (S : z_SS) (x2 : Int32) (x7 : Int64) (q : z_Sg) (hx2 : y_in x2 (1) (8)) (hq : iM W (x2, true, fun _ _ _ => True) q) (hW : W + 8 ≤ 16) : z_ok (k_Mo_shift_148 x2 x7 q) (fun o : z_Sg => iM (W + 8) z_Z o) := by
  unfold k_Mo_shift_148
  refine z_ok_b (t_f_Mo_setE W (x2, true, fun _ _ _ => True) x2 x7 q hx2 hq (by omega)) (fun r14 hr14 => ?_)
  exact z_ok_s (iM_0 hr14)

set_option maxHeartbeats 4000000 in
set_option maxRecDepth 100000 in
theorem t_k_Mo_shift_146 (W : Nat) (S : z_SS) (x2 : Int32) (t0 : Int64) (q : z_Sg) (hx2 : y_in x2 (1) (8)) (hq : iM W (x2, true, fun _ _ _ => True) q) (hW : W + 8 ≤ 16) : z_ok (k_Mo_shift_146 x2 t0 q) (fun o : z_Sg => iM (W + 8) z_Z o) := by
  unfold k_Mo_shift_146
  exact t_k_Mo_shift_148 W S x2 t0 q hx2 hq hW

set_option maxHeartbeats 4000000 in
set_option maxRecDepth 100000 in
theorem t_k_Mo_shift_88 (W : Nat) (S : z_SS) (x2 : Int32) (t0 : Int32) (t1 : Int32) (q : z_Sg) (hx2 : y_in x2 (1) (8)) (ht0 : y_in t0 (0) (255)) (ht1 : y_in t1 (32) (64)) (hq : iM W z_Z q) (hW : W + 8 ≤ 16) : z_ok (k_Mo_shift_88 x2 t0 t1 q) (fun o : z_Sg => iM (W + 8) z_Z o) := by
  unfold k_Mo_shift_88
  refine z_ok_g (z_n0 ht1 (by decide)) ?_
  refine z_ok_n (fun n10 en10 => ?_)
  have hn10 : y_in n10 (0) (63) := z_e en10 (z_w (a' := 0) (b' := 63) (z_modv ht0 ht1 (by decide) (by decide)) (by decide) (by decide))
  refine z_ok_b (t_f_Mo_e W z_Z x2 (1 : Int32) q hx2 (z_w (show y_in (1 : Int32) (1) (1) from ⟨by decide, by decide⟩) (by decide) (by decide)) hq (by omega)) (fun r11 hr11 => ?_)
  refine z_ok_i (fun c234373 => ?_) (fun c234373 => ?_)
  · have z234374 : y_in (z_gI r11.2 4) (-1) (-1) := z_w (z_eq1 c234373 (show y_in (-1 : Int32) (-1) (-1) from ⟨by decide, by decide⟩)) (by decide) (by decide)
    refine z_ok_i (fun c234375 => ?_) (fun c234375 => ?_)
    · have z234376 : y_in n10 (0) (0) := z_w (z_le1 c234375 hn10 (show y_in (0 : Int32) (0) (0) from ⟨by decide, by decide⟩)) (by decide) (by decide)
      exact t_k_Mo_shift_148 W S x2 r11.1 r11.2 hx2 hr11 hW
    · have z234377 : y_in n10 (1) (63) := z_w (z_nle1 c234375 hn10 (show y_in (0 : Int32) (0) (0) from ⟨by decide, by decide⟩)) (by decide) (by decide)
      refine z_ok_i (fun c234378 => ?_) (fun c234378 => ?_)
      · have z234379 : y_in (z_gI r11.2 8) (4) (7) := z_w (z_le2 c234378 (show y_in (4 : Int32) (4) (4) from ⟨by decide, by decide⟩) (iM_f8 hr11)) (by decide) (by decide)
        refine z_ok_b (t_f_Mo_shifted W (x2, true, fun _ _ _ => True) r11.1 n10 x2 r11.2 z234377 hx2 hr11 (by omega)) (fun r16 hr16 => ?_)
        exact t_k_Mo_shift_146 W S x2 r16.1 r16.2 hx2 hr16 hW
      · have z234380 : y_in (z_gI r11.2 8) (0) (3) := z_w (z_nle2 c234378 (show y_in (4 : Int32) (4) (4) from ⟨by decide, by decide⟩) (iM_f8 hr11)) (by decide) (by decide)
        refine z_ok_b (t_f_Mo_rotated W (x2, true, fun _ _ _ => True) r11.1 n10 x2 r11.2 z234377 hx2 hr11 (by omega)) (fun r17 hr17 => ?_)
        exact t_k_Mo_shift_146 W S x2 r17.1 r17.2 hx2 hr17 hW
  · have z234381 : y_in (z_gI r11.2 4) (0) (14) := z_w (z_ne1 c234373 (iM_f4 hr11) (by decide)) (by decide) (by decide)
    exact z_ok_s (iM_w (iM_0 hr11) (by omega))

set_option maxHeartbeats 4000000 in
set_option maxRecDepth 100000 in
theorem t_k_Mo_shift_59 (W : Nat) (S : z_SS) (x2 : Int32) (t0 : Int32) (q : z_Sg) (hx2 : y_in x2 (1) (8)) (ht0 : y_in t0 (0) (255)) (hq : iM W z_Z q) (hW : W + 8 ≤ 16) : z_ok (k_Mo_shift_59 x2 t0 q) (fun o : z_Sg => iM (W + 8) z_Z o) := by
  unfold k_Mo_shift_59
  refine z_ok_n (fun q7 eq7 => ?_)
  have hq7 : iM W z_Z q7 := by rw [eq7]; exact (iM_sL hq)
  refine z_ok_i (fun c234382 => ?_) (fun c234382 => ?_)
  · have z234383 : y_in x2 (8) (8) := z_w (z_eq1 c234382 (show y_in (8 : Int32) (8) (8) from ⟨by decide, by decide⟩)) (by decide) (by decide)
    exact t_k_Mo_shift_88 W S x2 t0 (64 : Int32) q7 (z_w z234383 (by decide) (by decide)) ht0 (z_w (show y_in (64 : Int32) (64) (64) from ⟨by decide, by decide⟩) (by decide) (by decide)) hq7 hW
  · have z234384 : y_in x2 (1) (7) := z_w (z_ne2 c234382 hx2 (by decide)) (by decide) (by decide)
    exact t_k_Mo_shift_88 W S x2 t0 (32 : Int32) q7 (z_w z234384 (by decide) (by decide)) ht0 (z_w (show y_in (32 : Int32) (32) (32) from ⟨by decide, by decide⟩) (by decide) (by decide)) hq7 hW

set_option maxHeartbeats 4000000 in
set_option maxRecDepth 100000 in
theorem t_k_Mo_shift_19 (W : Nat) (S : z_SS) (x1 : Int32) (x2 : Int32) (q : z_Sg) (hx1 : y_in x1 (192) (211)) (hx2 : y_in x2 (1) (8)) (hq : iM W z_Z q) (hW : W + 8 ≤ 16) : z_ok (k_Mo_shift_19 x1 x2 q) (fun o : z_Sg => iM (W + 8) z_Z o) := by
  unfold k_Mo_shift_19
  refine z_ok_b (t_f_Mo_takePlace W z_Z q hq (by omega)) (fun r3 hr3 => ?_)
  refine z_ok_i (fun c234385 => ?_) (fun c234385 => ?_)
  · have z234386 : y_in x1 (208) (211) := z_w (z_le2 c234385 (show y_in (208 : Int32) (208) (208) from ⟨by decide, by decide⟩) hx1) (by decide) (by decide)
    refine z_ok_i (fun c234387 => ?_) (fun c234387 => ?_)
    · have z234388 : y_in x1 (210) (211) := z_w (z_le2 c234387 (show y_in (210 : Int32) (210) (210) from ⟨by decide, by decide⟩) z234386) (by decide) (by decide)
      refine z_ok_g (z_nbad (z_w (show y_in (1 : Int32) (1) (1) from ⟨by decide, by decide⟩) (by decide) (Int.le_refl _)) (by decide)) ?_
      exact t_k_Mo_shift_59 W S x2 ((z_gM r3 0 (1 : Int32).toNatClampNeg) &&& (255 : Int64)).toInt32 r3 hx2 (z_l2i (n := 255) rfl (by decide)) hr3 hW
    · have z234389 : y_in x1 (208) (209) := z_w (z_nle2 c234387 (show y_in (210 : Int32) (210) (210) from ⟨by decide, by decide⟩) z234386) (by decide) (by decide)
      exact t_k_Mo_shift_59 W S x2 (1 : Int32) r3 hx2 (z_w (show y_in (1 : Int32) (1) (1) from ⟨by decide, by decide⟩) (by decide) (by decide)) hr3 hW
  · have z234390 : y_in x1 (192) (207) := z_w (z_nle2 c234385 (show y_in (208 : Int32) (208) (208) from ⟨by decide, by decide⟩) hx1) (by decide) (by decide)
    refine z_ok_b (t_f_Mo_fetch W z_Z r3 hr3 (by omega)) (fun r18 hr18 => ?_)
    exact t_k_Mo_shift_59 W S x2 r18.1 r18.2 hx2 hr18.2 hr18.1 hW

set_option maxHeartbeats 4000000 in
set_option maxRecDepth 100000 in
theorem t_f_Mo_shift (W : Nat) (S : z_SS) (x1 : Int32) (x2 : Int32) (q : z_Sg) (hx1 : y_in x1 (192) (211)) (hx2 : y_in x2 (1) (8)) (hq : iM W S q) (hW : W + 8 ≤ 16) : z_ok (f_Mo_shift x1 x2 q) (fun o : z_Sg => iM (W + 8) z_Z o) := by
  unfold f_Mo_shift
  refine z_ok_b (t_f_Mo_takeMod W S q hq (by omega)) (fun r1 hr1 => ?_)
  refine z_ok_i (fun c234391 => ?_) (fun c234391 => ?_)
  · have z234392 : y_in (z_gI r1 8) (6) (6) := z_w (z_eq1 c234391 (show y_in (6 : Int32) (6) (6) from ⟨by decide, by decide⟩)) (by decide) (by decide)
    refine z_ok_b (t_f_Mo_refuse W z_Z (6 : Int32) r1 (z_w (show y_in (6 : Int32) (6) (6) from ⟨by decide, by decide⟩) (by decide) (by decide)) hr1 (by omega)) (fun r19 hr19 => ?_)
    exact t_k_Mo_shift_19 W S x1 x2 r19 hx1 hx2 hr19 hW
  · exact t_k_Mo_shift_19 W S x1 x2 r1 hx1 hx2 hr1 hW

set_option maxHeartbeats 4000000 in
set_option maxRecDepth 100000 in
theorem t_k_Mo_quotient_180 (W : Nat) (S : z_SS) (t0 : Int32) (q : z_Sg) (ht0 : y_in t0 (0) (1)) (hq : iM W S q) (hW : W + 0 ≤ 16) : z_ok (k_Mo_quotient_180 t0 q) (fun o : Int32 × z_Sg => iM W S o.2 ∧ y_in o.1 (0) (1)) := by
  unfold k_Mo_quotient_180
  refine z_ok_G (z_bi ht0) ?_
  exact z_ok_s ⟨hq, ht0⟩

set_option maxHeartbeats 4000000 in
set_option maxRecDepth 100000 in
theorem t_k_Mo_quotient_179 (W : Nat) (S : z_SS) (q : z_Sg) (hq : iM W S q) (hW : W + 0 ≤ 16) : z_ok (k_Mo_quotient_179 q) (fun o : Int32 × z_Sg => iM W S o.2 ∧ y_in o.1 (0) (1)) := by
  unfold k_Mo_quotient_179
  exact t_k_Mo_quotient_180 W S (0 : Int32) q (z_w (show y_in (0 : Int32) (0) (0) from ⟨by decide, by decide⟩) (by decide) (by decide)) hq hW

set_option maxHeartbeats 4000000 in
set_option maxRecDepth 100000 in
theorem t_k_Mo_quotient_175 (W : Nat) (S : z_SS) (q : z_Sg) (hq : iM W S q) (hW : W + 0 ≤ 16) : z_ok (k_Mo_quotient_175 q) (fun o : Int32 × z_Sg => iM W S o.2 ∧ y_in o.1 (0) (1)) := by
  unfold k_Mo_quotient_175
  exact t_k_Mo_quotient_180 W S (1 : Int32) q (z_w (show y_in (1 : Int32) (1) (1) from ⟨by decide, by decide⟩) (by decide) (by decide)) hq hW

set_option maxHeartbeats 4000000 in
set_option maxRecDepth 100000 in
theorem t_k_Mo_quotient_132 (W : Nat) (S : z_SS) (ih13 : Int64 × Int32 × Int64 × Int64 × Int64 × Int32 × z_Sg → Option (Int32 × z_Sg)) (x1 : Int64) (x3 : Int32) (x4 : Int64) (x6 : Int64) (x10 : Int32) (t0 : Int64) (t1 : Int64) (q : z_Sg) (hi13 : ∀ (x1' : Int64) (x3' : Int32) (x4' : Int64) (x6' : Int64) (x8' : Int64) (x10' : Int32) (q' : z_Sg), y_in x3' (64) (64) → y_in x10' (-1) (127) → iM W S q' → (x10'.toInt - (-1)).toNat < (x10.toInt - (-1)).toNat → z_ok (ih13 (x1', x3', x4', x6', x8', x10', q')) (fun o : Int32 × z_Sg => iM W S o.2 ∧ y_in o.1 (0) (1))) (hx3 : y_in x3 (64) (64)) (hx10 : y_in x10 (0) (127)) (ht1 : y_il t1 (0) (1)) (hq : iM W S q) (hW : W + 0 ≤ 16) : z_ok (k_Mo_quotient_132 ih13 x1 x3 x4 x6 x10 t0 t1 q) (fun o : Int32 × z_Sg => iM W S o.2 ∧ y_in o.1 (0) (1)) := by
  unfold k_Mo_quotient_132
  refine z_ok_n (fun n15 en15 => ?_)
  refine z_ok_n (fun n16 en16 => ?_)
  have hn16 : y_in n16 (-1) (126) := z_e en16 (z_w (a' := -1) (b' := 126) (z_add hx10 (show y_in (-1 : Int32) (-1) (-1) from ⟨by decide, by decide⟩) (by decide) (by decide)) (by decide) (by decide))
  exact hi13 x1 x3 x4 x6 n15 n16 q hx3 (z_w hn16 (by decide) (by decide)) hq (z_md (-1) 1 hx10 en16 (by decide) (by decide) (by decide) (by decide))

set_option maxHeartbeats 4000000 in
set_option maxRecDepth 100000 in
theorem t_k_Mo_quotient_106 (W : Nat) (S : z_SS) (ih13 : Int64 × Int32 × Int64 × Int64 × Int64 × Int32 × z_Sg → Option (Int32 × z_Sg)) (x1 : Int64) (x3 : Int32) (x4 : Int64) (x6 : Int64) (x8 : Int64) (x10 : Int32) (x12 : Int32) (q : z_Sg) (hi13 : ∀ (x1' : Int64) (x3' : Int32) (x4' : Int64) (x6' : Int64) (x8' : Int64) (x10' : Int32) (q' : z_Sg), y_in x3' (64) (64) → y_in x10' (-1) (127) → iM W S q' → (x10'.toInt - (-1)).toNat < (x10.toInt - (-1)).toNat → z_ok (ih13 (x1', x3', x4', x6', x8', x10', q')) (fun o : Int32 × z_Sg => iM W S o.2 ∧ y_in o.1 (0) (1))) (hx3 : y_in x3 (64) (64)) (hx10 : y_in x10 (0) (127)) (hx12 : y_in x12 (0) (1)) (hq : iM W S q) (hW : W + 0 ≤ 16) : z_ok (k_Mo_quotient_106 ih13 x1 x3 x4 x6 x8 x10 x12 q) (fun o : Int32 × z_Sg => iM W S o.2 ∧ y_in o.1 (0) (1)) := by
  unfold k_Mo_quotient_106
  refine z_ok_n (fun n13 en13 => ?_)
  refine z_ok_i (fun c234393 => ?_) (fun c234393 => ?_)
  · have z234394 : y_in x12 (0) (0) := z_w (z_eq1 c234393 (show y_in (0 : Int32) (0) (0) from ⟨by decide, by decide⟩)) (by decide) (by decide)
    exact t_k_Mo_quotient_132 W S ih13 x1 x3 x4 n13 x10 (z_lshl x8 (1 : Int32)) (0 : Int64) q hi13 hx3 hx10 (z_lw (show y_il (0 : Int64) (0) (0) from ⟨by decide, by decide⟩) (by decide) (by decide)) hq hW
  · have z234395 : y_in x12 (1) (1) := z_w (z_ne1 c234393 hx12 (by decide)) (by decide) (by decide)
    exact t_k_Mo_quotient_132 W S ih13 x1 x3 x4 n13 x10 (z_lshl x8 (1 : Int32)) (1 : Int64) q hi13 hx3 hx10 (z_lw (show y_il (1 : Int64) (1) (1) from ⟨by decide, by decide⟩) (by decide) (by decide)) hq hW

set_option maxHeartbeats 4000000 in
set_option maxRecDepth 100000 in
theorem t_k_Mo_quotient_93 (W : Nat) (S : z_SS) (ih13 : Int64 × Int32 × Int64 × Int64 × Int64 × Int32 × z_Sg → Option (Int32 × z_Sg)) (x1 : Int64) (x3 : Int32) (x4 : Int64) (x6 : Int64) (x8 : Int64) (x10 : Int32) (t0 : Int32) (q : z_Sg) (hi13 : ∀ (x1' : Int64) (x3' : Int32) (x4' : Int64) (x6' : Int64) (x8' : Int64) (x10' : Int32) (q' : z_Sg), y_in x3' (64) (64) → y_in x10' (-1) (127) → iM W S q' → (x10'.toInt - (-1)).toNat < (x10.toInt - (-1)).toNat → z_ok (ih13 (x1', x3', x4', x6', x8', x10', q')) (fun o : Int32 × z_Sg => iM W S o.2 ∧ y_in o.1 (0) (1))) (hx3 : y_in x3 (64) (64)) (hx10 : y_in x10 (0) (127)) (ht0 : y_in t0 (0) (1)) (hq : iM W S q) (hW : W + 0 ≤ 16) : z_ok (k_Mo_quotient_93 ih13 x1 x3 x4 x6 x8 x10 t0 q) (fun o : Int32 × z_Sg => iM W S o.2 ∧ y_in o.1 (0) (1)) := by
  unfold k_Mo_quotient_93
  refine z_ok_i (fun c234396 => ?_) (fun c234396 => ?_)
  · have z234397 : y_in t0 (0) (0) := z_w (z_eq1 c234396 (show y_in (0 : Int32) (0) (0) from ⟨by decide, by decide⟩)) (by decide) (by decide)
    exact t_k_Mo_quotient_106 W S ih13 x1 x3 x4 x6 x8 x10 t0 q hi13 hx3 hx10 (z_w z234397 (by decide) (by decide)) hq hW
  · have z234398 : y_in t0 (1) (1) := z_w (z_ne1 c234396 ht0 (by decide)) (by decide) (by decide)
    refine z_ok_n (fun n17 en17 => ?_)
    exact t_k_Mo_quotient_106 W S ih13 x1 x3 n17 x6 x8 x10 t0 q hi13 hx3 hx10 (z_w z234398 (by decide) (by decide)) hq hW

set_option maxHeartbeats 4000000 in
set_option maxRecDepth 100000 in
theorem t_k_Mo_quotient_88 (W : Nat) (S : z_SS) (ih13 : Int64 × Int32 × Int64 × Int64 × Int64 × Int32 × z_Sg → Option (Int32 × z_Sg)) (x1 : Int64) (x3 : Int32) (x4 : Int64) (x6 : Int64) (x8 : Int64) (x10 : Int32) (q : z_Sg) (hi13 : ∀ (x1' : Int64) (x3' : Int32) (x4' : Int64) (x6' : Int64) (x8' : Int64) (x10' : Int32) (q' : z_Sg), y_in x3' (64) (64) → y_in x10' (-1) (127) → iM W S q' → (x10'.toInt - (-1)).toNat < (x10.toInt - (-1)).toNat → z_ok (ih13 (x1', x3', x4', x6', x8', x10', q')) (fun o : Int32 × z_Sg => iM W S o.2 ∧ y_in o.1 (0) (1))) (hx3 : y_in x3 (64) (64)) (hx10 : y_in x10 (0) (127)) (hq : iM W S q) (hW : W + 0 ≤ 16) : z_ok (k_Mo_quotient_88 ih13 x1 x3 x4 x6 x8 x10 q) (fun o : Int32 × z_Sg => iM W S o.2 ∧ y_in o.1 (0) (1)) := by
  unfold k_Mo_quotient_88
  exact t_k_Mo_quotient_93 W S ih13 x1 x3 x4 x6 x8 x10 (1 : Int32) q hi13 hx3 hx10 (z_w (show y_in (1 : Int32) (1) (1) from ⟨by decide, by decide⟩) (by decide) (by decide)) hq hW

set_option maxHeartbeats 4000000 in
set_option maxRecDepth 100000 in
theorem t_k_Mo_quotient_63 (W : Nat) (S : z_SS) (ih13 : Int64 × Int32 × Int64 × Int64 × Int64 × Int32 × z_Sg → Option (Int32 × z_Sg)) (x1 : Int64) (x3 : Int32) (x6 : Int64) (x8 : Int64) (x10 : Int32) (x11 : Int32) (t0 : Int64) (t1 : Int64) (q : z_Sg) (hi13 : ∀ (x1' : Int64) (x3' : Int32) (x4' : Int64) (x6' : Int64) (x8' : Int64) (x10' : Int32) (q' : z_Sg), y_in x3' (64) (64) → y_in x10' (-1) (127) → iM W S q' → (x10'.toInt - (-1)).toNat < (x10.toInt - (-1)).toNat → z_ok (ih13 (x1', x3', x4', x6', x8', x10', q')) (fun o : Int32 × z_Sg => iM W S o.2 ∧ y_in o.1 (0) (1))) (hx3 : y_in x3 (64) (64)) (hx10 : y_in x10 (0) (127)) (hx11 : y_in x11 (0) (1)) (hq : iM W S q) (hW : W + 0 ≤ 16) : z_ok (k_Mo_quotient_63 ih13 x1 x3 x6 x8 x10 x11 t0 t1 q) (fun o : Int32 × z_Sg => iM W S o.2 ∧ y_in o.1 (0) (1)) := by
  unfold k_Mo_quotient_63
  refine z_ok_n (fun n10 en10 => ?_)
  refine z_ok_i (fun c234399 => ?_) (fun c234399 => ?_)
  · have z234400 : y_in x11 (0) (0) := z_w (z_eq1 c234399 (show y_in (0 : Int32) (0) (0) from ⟨by decide, by decide⟩)) (by decide) (by decide)
    refine z_ok_i (fun c234401 => ?_) (fun c234401 => ?_)
    · exact t_k_Mo_quotient_93 W S ih13 x1 x3 n10 x6 x8 x10 (0 : Int32) q hi13 hx3 hx10 (z_w (show y_in (0 : Int32) (0) (0) from ⟨by decide, by decide⟩) (by decide) (by decide)) hq hW
    · exact t_k_Mo_quotient_88 W S ih13 x1 x3 n10 x6 x8 x10 q hi13 hx3 hx10 hq hW
  · have z234402 : y_in x11 (1) (1) := z_w (z_ne1 c234399 hx11 (by decide)) (by decide) (by decide)
    exact t_k_Mo_quotient_88 W S ih13 x1 x3 n10 x6 x8 x10 q hi13 hx3 hx10 hq hW

set_option maxHeartbeats 4000000 in
set_option maxRecDepth 100000 in
theorem t_k_Mo_quotient_30 (W : Nat) (S : z_SS) (ih13 : Int64 × Int32 × Int64 × Int64 × Int64 × Int32 × z_Sg → Option (Int32 × z_Sg)) (x1 : Int64) (x3 : Int32) (x4 : Int64) (x6 : Int64) (x8 : Int64) (x10 : Int32) (t0 : Int32) (q : z_Sg) (hi13 : ∀ (x1' : Int64) (x3' : Int32) (x4' : Int64) (x6' : Int64) (x8' : Int64) (x10' : Int32) (q' : z_Sg), y_in x3' (64) (64) → y_in x10' (-1) (127) → iM W S q' → (x10'.toInt - (-1)).toNat < (x10.toInt - (-1)).toNat → z_ok (ih13 (x1', x3', x4', x6', x8', x10', q')) (fun o : Int32 × z_Sg => iM W S o.2 ∧ y_in o.1 (0) (1))) (hx3 : y_in x3 (64) (64)) (hx10 : y_in x10 (0) (127)) (ht0 : y_in t0 (0) (1)) (hq : iM W S q) (hW : W + 0 ≤ 16) : z_ok (k_Mo_quotient_30 ih13 x1 x3 x4 x6 x8 x10 t0 q) (fun o : Int32 × z_Sg => iM W S o.2 ∧ y_in o.1 (0) (1)) := by
  unfold k_Mo_quotient_30
  refine z_ok_i (fun c234403 => ?_) (fun c234403 => ?_)
  · have z234404 : y_in x10 (0) (63) := z_w (z_le1 c234403 hx10 (show y_in (63 : Int32) (63) (63) from ⟨by decide, by decide⟩)) (by decide) (by decide)
    exact t_k_Mo_quotient_63 W S ih13 x1 x3 x6 x8 x10 t0 (z_lshl x4 (1 : Int32)) (z_lushr (z_gL q 8) x10) q hi13 hx3 (z_w z234404 (by decide) (by decide)) ht0 hq hW
  · have z234405 : y_in x10 (64) (127) := z_w (z_nle1 c234403 hx10 (show y_in (63 : Int32) (63) (63) from ⟨by decide, by decide⟩)) (by decide) (by decide)
    exact t_k_Mo_quotient_63 W S ih13 x1 x3 x6 x8 x10 t0 (z_lshl x4 (1 : Int32)) (z_lushr (z_gL q 9) (x10 - (64 : Int32))) q hi13 hx3 (z_w z234405 (by decide) (by decide)) ht0 hq hW

set_option maxHeartbeats 4000000 in
set_option maxRecDepth 100000 in
theorem t_kb_Mo_quotient_13 (W : Nat) (S : z_SS) (ih13 : Int64 × Int32 × Int64 × Int64 × Int64 × Int32 × z_Sg → Option (Int32 × z_Sg)) (x1 : Int64) (x3 : Int32) (x4 : Int64) (x6 : Int64) (x8 : Int64) (x10 : Int32) (q : z_Sg) (hi13 : ∀ (x1' : Int64) (x3' : Int32) (x4' : Int64) (x6' : Int64) (x8' : Int64) (x10' : Int32) (q' : z_Sg), y_in x3' (64) (64) → y_in x10' (-1) (127) → iM W S q' → (x10'.toInt - (-1)).toNat < (x10.toInt - (-1)).toNat → z_ok (ih13 (x1', x3', x4', x6', x8', x10', q')) (fun o : Int32 × z_Sg => iM W S o.2 ∧ y_in o.1 (0) (1))) (hx3 : y_in x3 (64) (64)) (hx10 : y_in x10 (-1) (127)) (hq : iM W S q) (hW : W + 0 ≤ 16) : z_ok (kb_Mo_quotient_13 ih13 x1 x3 x4 x6 x8 x10 q) (fun o : Int32 × z_Sg => iM W S o.2 ∧ y_in o.1 (0) (1)) := by
  unfold kb_Mo_quotient_13
  refine z_ok_i (fun c234406 => ?_) (fun c234406 => ?_)
  · have z234407 : y_in x10 (-1) (-1) := z_w (z_lt1 c234406 hx10 (show y_in (0 : Int32) (0) (0) from ⟨by decide, by decide⟩)) (by decide) (by decide)
    refine z_ok_n (fun q2 eq2 => ?_)
    have hq2 : iM W S q2 := by rw [eq2]; exact (iM_sL hq)
    refine z_ok_n (fun q3 eq3 => ?_)
    have hq3 : iM W S q3 := by rw [eq3]; exact (iM_sL hq2)
    refine z_ok_i (fun c234408 => ?_) (fun c234408 => ?_)
    · refine z_ok_i (fun c234409 => ?_) (fun c234409 => ?_)
      · exact t_k_Mo_quotient_175 W S q3 hq3 hW
      · exact absurd (z_deadQn hx3 (show y_in (64 : Int32) (64) (64) from ⟨by decide, by decide⟩) (by decide)) c234409
    · exact t_k_Mo_quotient_179 W S q3 hq3 hW
  · have z234410 : y_in x10 (0) (127) := z_w (z_nlt1 c234406 hx10 (show y_in (0 : Int32) (0) (0) from ⟨by decide, by decide⟩)) (by decide) (by decide)
    refine z_ok_i (fun c234411 => ?_) (fun c234411 => ?_)
    · exact t_k_Mo_quotient_30 W S ih13 x1 x3 x4 x6 x8 x10 (0 : Int32) q hi13 hx3 z234410 (z_w (show y_in (0 : Int32) (0) (0) from ⟨by decide, by decide⟩) (by decide) (by decide)) hq hW
    · exact t_k_Mo_quotient_30 W S ih13 x1 x3 x4 x6 x8 x10 (1 : Int32) q hi13 hx3 z234410 (z_w (show y_in (1 : Int32) (1) (1) from ⟨by decide, by decide⟩) (by decide) (by decide)) hq hW

set_option maxHeartbeats 4000000 in
set_option maxRecDepth 100000 in
theorem t_k_Mo_quotient_13 (W : Nat) (S : z_SS) (x1 : Int64) (x3 : Int32) (x4 : Int64) (x6 : Int64) (x8 : Int64) (x10 : Int32) (q : z_Sg) (hx3 : y_in x3 (64) (64)) (hx4 : y_il x4 (0) (0)) (hx6 : y_il x6 (0) (0)) (hx8 : y_il x8 (0) (0)) (hx10 : y_in x10 (127) (127)) (hq : iM W S q) (hW : W + 0 ≤ 16) : z_ok (k_Mo_quotient_13 x1 x3 x4 x6 x8 x10 q) (fun o : Int32 × z_Sg => iM W S o.2 ∧ y_in o.1 (0) (1)) := by
  unfold k_Mo_quotient_13
  refine z_ok_l (fun a : Int64 × Int32 × Int64 × Int64 × Int64 × Int32 × z_Sg => y_in a.2.1 (64) (64) ∧ y_in a.2.2.2.2.2.1 (-1) (127) ∧ iM W S a.2.2.2.2.2.2) (fun a => (a.2.2.2.2.2.1.toInt - (-1)).toNat) ?_ (x1, x3, x4, x6, x8, x10, q) ⟨hx3, (z_w hx10 (by decide) (by decide)), hq⟩ (by show ((x10.toInt - (-1)).toNat) < 2000; have z1 := hx10.1; have z2 := hx10.2; omega)
  intro ih a ha hih
  exact t_kb_Mo_quotient_13 W S ih a.1 a.2.1 a.2.2.1 a.2.2.2.1 a.2.2.2.2.1 a.2.2.2.2.2.1 a.2.2.2.2.2.2 (fun x1' x3' x4' x6' x8' x10' q' hx3' hx10' hq' hm => hih (x1', x3', x4', x6', x8', x10', q') ⟨hx3', hx10', hq'⟩ hm) ha.1 ha.2.1 ha.2.2 hW

set_option maxHeartbeats 4000000 in
set_option maxRecDepth 100000 in
theorem t_f_Mo_quotient (W : Nat) (S : z_SS) (x1 : Int64) (x3 : Int32) (q : z_Sg) (hx3 : y_in x3 (64) (64)) (hq : iM W S q) (hW : W + 0 ≤ 16) : z_ok (f_Mo_quotient x1 x3 q) (fun o : Int32 × z_Sg => iM W S o.2 ∧ y_in o.1 (0) (1)) := by
  unfold f_Mo_quotient
  exact t_k_Mo_quotient_13 W S x1 x3 (0 : Int64) (0 : Int64) (0 : Int64) (127 : Int32) q hx3 (show y_il (0 : Int64) (0) (0) from ⟨by decide, by decide⟩) (show y_il (0 : Int64) (0) (0) from ⟨by decide, by decide⟩) (show y_il (0 : Int64) (0) (0) from ⟨by decide, by decide⟩) (show y_in (127 : Int32) (127) (127) from ⟨by decide, by decide⟩) hq hW

set_option maxHeartbeats 4000000 in
set_option maxRecDepth 100000 in
theorem t_k_Mo_turnSign_32 (W : Nat) (S : z_SS) (t1 : Int64) (t2 : Int64) (q : z_Sg) (ht2 : y_il t2 (0) (1)) (hq : iM W S q) (hW : W + 0 ≤ 16) : z_ok (k_Mo_turnSign_32 t1 t2 q) (fun o : z_Sg => iM W S o) := by
  unfold k_Mo_turnSign_32
  refine z_ok_n (fun q3 eq3 => ?_)
  have hq3 : iM W S q3 := by rw [eq3]; exact (iM_sL hq)
  exact z_ok_s hq3

set_option maxHeartbeats 4000000 in
set_option maxRecDepth 100000 in
theorem t_f_Mo_turnSign (W : Nat) (S : z_SS) (q : z_Sg) (hq : iM W S q) (hW : W + 0 ≤ 16) : z_ok (f_Mo_turnSign q) (fun o : z_Sg => iM W S o) := by
  unfold f_Mo_turnSign
  refine z_ok_n (fun q1 eq1 => ?_)
  have hq1 : iM W S q1 := by rw [eq1]; exact (iM_sL hq)
  refine z_ok_i (fun c234412 => ?_) (fun c234412 => ?_)
  · exact t_k_Mo_turnSign_32 W S ((z_gL q1 9) ^^^ (-1 : Int64)) (1 : Int64) q1 (z_lw (show y_il (1 : Int64) (1) (1) from ⟨by decide, by decide⟩) (by decide) (by decide)) hq1 hW
  · exact t_k_Mo_turnSign_32 W S ((z_gL q1 9) ^^^ (-1 : Int64)) (0 : Int64) q1 (z_lw (show y_il (0 : Int64) (0) (0) from ⟨by decide, by decide⟩) (by decide) (by decide)) hq1 hW

set_option maxHeartbeats 4000000 in
set_option maxRecDepth 100000 in
theorem t_k_Mo_divide_474 (W : Nat) (S : z_SS) (ih455 : Int32 × z_Sg → Option z_Sg) (x21 : Int32) (q : z_Sg) (hi455 : ∀ (x21' : Int32) (q' : z_Sg), y_in x21' (0) (7) → iM W S q' → (7 - x21'.toInt).toNat < (7 - x21.toInt).toNat → z_ok (ih455 (x21', q')) (fun o : z_Sg => iM W S o)) (hx21 : y_in x21 (0) (6)) (hq : iM W S q) (hW : W + 0 ≤ 16) : z_ok (k_Mo_divide_474 ih455 x21 q) (fun o : z_Sg => iM W S o) := by
  unfold k_Mo_divide_474
  refine z_ok_n (fun n33 en33 => ?_)
  have hn33 : y_in n33 (1) (7) := z_e en33 (z_w (a' := 1) (b' := 7) (z_add hx21 (show y_in (1 : Int32) (1) (1) from ⟨by decide, by decide⟩) (by decide) (by decide)) (by decide) (by decide))
  exact hi455 n33 q (z_w hn33 (by decide) (by decide)) hq (z_mu (7) 1 hx21 en33 (by decide) (by decide) (by decide) (by decide))

set_option maxHeartbeats 4000000 in
set_option maxRecDepth 100000 in
theorem t_kb_Mo_divide_455 (W : Nat) (S : z_SS) (ih455 : Int32 × z_Sg → Option z_Sg) (x21 : Int32) (q : z_Sg) (hi455 : ∀ (x21' : Int32) (q' : z_Sg), y_in x21' (0) (7) → iM W S q' → (7 - x21'.toInt).toNat < (7 - x21.toInt).toNat → z_ok (ih455 (x21', q')) (fun o : z_Sg => iM W S o)) (hx21 : y_in x21 (0) (7)) (hq : iM W S q) (hW : W + 0 ≤ 16) : z_ok (kb_Mo_divide_455 ih455 x21 q) (fun o : z_Sg => iM W S o) := by
  unfold kb_Mo_divide_455
  refine z_ok_i (fun c234413 => ?_) (fun c234413 => ?_)
  · have z234414 : y_in x21 (7) (7) := z_w (z_le2 c234413 (show y_in (7 : Int32) (7) (7) from ⟨by decide, by decide⟩) hx21) (by decide) (by decide)
    exact z_ok_s hq
  · have z234415 : y_in x21 (0) (6) := z_w (z_nle2 c234413 (show y_in (7 : Int32) (7) (7) from ⟨by decide, by decide⟩) hx21) (by decide) (by decide)
    refine z_ok_i (fun c234416 => ?_) (fun c234416 => ?_)
    · have z234417 : y_in x21 (5) (5) := z_w (z_eq1 c234416 (show y_in (5 : Int32) (5) (5) from ⟨by decide, by decide⟩)) (by decide) (by decide)
      exact t_k_Mo_divide_474 W S ih455 x21 q hi455 (z_w z234417 (by decide) (by decide)) hq hW
    · refine z_ok_b (t_f_Mo_leave W S x21 q z234415 hq (by omega)) (fun r34 hr34 => ?_)
      exact t_k_Mo_divide_474 W S ih455 x21 r34 hi455 z234415 hr34 hW

set_option maxHeartbeats 4000000 in
set_option maxRecDepth 100000 in
theorem t_k_Mo_divide_455 (W : Nat) (S : z_SS) (x21 : Int32) (q : z_Sg) (hx21 : y_in x21 (0) (0)) (hq : iM W S q) (hW : W + 0 ≤ 16) : z_ok (k_Mo_divide_455 x21 q) (fun o : z_Sg => iM W S o) := by
  unfold k_Mo_divide_455
  refine z_ok_l (fun a : Int32 × z_Sg => y_in a.1 (0) (7) ∧ iM W S a.2) (fun a => (7 - a.1.toInt).toNat) ?_ (x21, q) ⟨(z_w hx21 (by decide) (by decide)), hq⟩ (by show ((7 - x21.toInt).toNat) < 2000; have z1 := hx21.1; have z2 := hx21.2; omega)
  intro ih a ha hih
  exact t_kb_Mo_divide_455 W S ih a.1 a.2 (fun x21' q' hx21' hq' hm => hih (x21', q') ⟨hx21', hq'⟩ hm) ha.1 ha.2 hW

set_option maxHeartbeats 4000000 in
set_option maxRecDepth 100000 in
theorem t_k_Mo_divide_452 (W : Nat) (S : z_SS) (q : z_Sg) (hq : iM W S q) (hW : W + 0 ≤ 16) : z_ok (k_Mo_divide_452 q) (fun o : z_Sg => iM W S o) := by
  unfold k_Mo_divide_452
  exact t_k_Mo_divide_455 W S (0 : Int32) q (show y_in (0 : Int32) (0) (0) from ⟨by decide, by decide⟩) hq hW

set_option maxHeartbeats 4000000 in
set_option maxRecDepth 100000 in
theorem t_k_Mo_divide_404 (W : Nat) (S : z_SS) (x3 : Int32) (x17 : Int64) (t0 : Int64) (q : z_Sg) (hx3 : y_in x3 (1) (8)) (hq : iM W S q) (hW : W + 0 ≤ 16) : z_ok (k_Mo_divide_404 x3 x17 t0 q) (fun o : z_Sg => iM W S o) := by
  unfold k_Mo_divide_404
  refine z_ok_i (fun c234418 => ?_) (fun c234418 => ?_)
  · have z234419 : y_in x3 (1) (1) := z_w (z_eq1 c234418 (show y_in (1 : Int32) (1) (1) from ⟨by decide, by decide⟩)) (by decide) (by decide)
    refine z_ok_b (t_f_Mo_lowest W S t0 (1 : Int32) q (z_w (show y_in (1 : Int32) (1) (1) from ⟨by decide, by decide⟩) (by decide) (by decide)) hq (by omega)) (fun r35 hr35 => ?_)
    refine z_ok_b (t_f_Mo_lowest W S x17 (1 : Int32) q (z_w (show y_in (1 : Int32) (1) (1) from ⟨by decide, by decide⟩) (by decide) (by decide)) hq (by omega)) (fun r36 hr36 => ?_)
    refine z_ok_b (t_f_Mo_put8 W S (0 : Int32) (2 : Int32) ((z_lshl r35 (8 : Int32)) ||| r36) q (z_w (show y_in (0 : Int32) (0) (0) from ⟨by decide, by decide⟩) (by decide) (by decide)) (z_w (show y_in (2 : Int32) (2) (2) from ⟨by decide, by decide⟩) (by decide) (by decide)) hq (by omega)) (fun r37 hr37 => ?_)
    exact t_k_Mo_divide_452 W S r37 hr37 hW
  · have z234420 : y_in x3 (2) (8) := z_w (z_ne1 c234418 hx3 (by decide)) (by decide) (by decide)
    refine z_ok_b (t_f_Mo_put8 W S (0 : Int32) x3 x17 q (z_w (show y_in (0 : Int32) (0) (0) from ⟨by decide, by decide⟩) (by decide) (by decide)) (z_w z234420 (by decide) (by decide)) hq (by omega)) (fun r29 hr29 => ?_)
    refine z_ok_b (t_f_Mo_put8 W S (2 : Int32) x3 t0 r29 (z_w (show y_in (2 : Int32) (2) (2) from ⟨by decide, by decide⟩) (by decide) (by decide)) (z_w z234420 (by decide) (by decide)) hr29 (by omega)) (fun r30 hr30 => ?_)
    exact t_k_Mo_divide_452 W S r30 hr30 hW

set_option maxHeartbeats 4000000 in
set_option maxRecDepth 100000 in
theorem t_k_Mo_divide_385 (W : Nat) (S : z_SS) (x3 : Int32) (x8 : Int32) (t0 : Int64) (q : z_Sg) (hx3 : y_in x3 (1) (8)) (hx8 : y_in x8 (0) (1)) (hq : iM W S q) (hW : W + 0 ≤ 16) : z_ok (k_Mo_divide_385 x3 x8 t0 q) (fun o : z_Sg => iM W S o) := by
  unfold k_Mo_divide_385
  refine z_ok_i (fun c234421 => ?_) (fun c234421 => ?_)
  · have z234422 : y_in x8 (0) (0) := z_w (z_eq1 c234421 (show y_in (0 : Int32) (0) (0) from ⟨by decide, by decide⟩)) (by decide) (by decide)
    exact t_k_Mo_divide_404 W S x3 t0 (z_gL q 9) q hx3 hq hW
  · have z234423 : y_in x8 (1) (1) := z_w (z_ne1 c234421 hx8 (by decide)) (by decide) (by decide)
    exact t_k_Mo_divide_404 W S x3 t0 (-(z_gL q 9)) q hx3 hq hW

set_option maxHeartbeats 4000000 in
set_option maxRecDepth 100000 in
theorem t_k_Mo_divide_368 (W : Nat) (S : z_SS) (x3 : Int32) (x8 : Int32) (x11 : Int32) (q : z_Sg) (hx3 : y_in x3 (1) (8)) (hx8 : y_in x8 (0) (1)) (hx11 : y_in x11 (0) (1)) (hq : iM W S q) (hW : W + 0 ≤ 16) : z_ok (k_Mo_divide_368 x3 x8 x11 q) (fun o : z_Sg => iM W S o) := by
  unfold k_Mo_divide_368
  refine z_ok_i (fun c234424 => ?_) (fun c234424 => ?_)
  · have z234425 : y_in x11 (0) (0) := z_w (z_eq1 c234424 (show y_in (0 : Int32) (0) (0) from ⟨by decide, by decide⟩)) (by decide) (by decide)
    exact t_k_Mo_divide_385 W S x3 x8 (z_gL q 8) q hx3 hx8 hq hW
  · have z234426 : y_in x11 (1) (1) := z_w (z_ne1 c234424 hx11 (by decide)) (by decide) (by decide)
    exact t_k_Mo_divide_385 W S x3 x8 (-(z_gL q 8)) q hx3 hx8 hq hW
