theorem r_andM {β : Type} {k0 : z_Sg} {x : Option (Int32 × z_Sg)} {y : Option (Sum z_Dd β)} {Q : z_Sg → β → Prop} {R : β → Prop} (h : z_r k0 x y Q) (h2 : z_po y (fun r => ∀ b, r = .inr b → R b)) : z_r k0 x y (fun o b => Q o b ∧ R b) := fun o r hx hy => ⟨(h o r hx hy).1, fun b e => ⟨((h o r hx hy).2 b e).1, ((h o r hx hy).2 b e).2, h2 r hy b e⟩⟩
theorem num_sx {n : Nat} (h1 : 1 ≤ n) (h8 : n ≤ 8) (m : z_Sg) : z_po (e_f_Mo_fetchNumber (nI n) m) (fun r => ∀ b, r = .inr b → sx b.1 n = b.1) := by
  unfold e_f_Mo_fetchNumber e_k_Mo_fetchNumber_5
  refine po_l (fun a => a.1 = nI n) (fun ih a ha hih => ?_) 2000 _ rfl
  unfold e_kb_Mo_fetchNumber_5
  refine po_i (fun _ => ?_) (fun _ => ?_)
  · rw [ha, M_extended _ h1 h8, po_bs2]
    refine po_s (fun b hb => ?_)
    cases hb
    exact sx_sx h1 (Nat.le_refl _) h8
  · intro r hr
    cases hf : e_f_Mo_fetch a.2.2.2 with
    | none => rw [hf] at hr; cases hr
    | some s =>
      rw [hf] at hr
      cases s with
      | inl d => cases hr; intro b hb; cases hb
      | inr c =>
        have hr' : ih (a.1, a.2.1 ||| z_lshl c.1.toInt64 (8 * a.2.2.1), a.2.2.1 + 1, c.2) = some r := hr
        exact hih (a.1, a.2.1 ||| z_lshl c.1.toInt64 (8 * a.2.2.1), a.2.2.1 + 1, c.2) ha r hr'
theorem dec9_n2 {β : Type} {k0 k m : z_Sg} (hk : ∃ f c, KF k0 k f c) (h : DR k m) {t : Int32} {n : Nat} (h1 : 1 ≤ n) (h8 : n ≤ 8) (hb : f_De_bytesOfNumber t k = some (nI n)) {l : Int64 × z_Sg → Option (Sum z_Dd β)} {Q : z_Sg → β → Prop} (ha : ∀ k' b, D9 k m k' b.2 → z_gL k' 9 = b.1 → z_gL k' 10 = z_gL b.2 7 → (∃ f c, KF k0 k' f c) → sx b.1 n = b.1 → z_r k0 ((f_Op_open k').bind S2) (l b) Q) : z_r k0 ((k_De_decode_93 (-1) t k).bind S1) (z_eb (e_f_Mo_number (nI n) m) l) Q := by
  have e : (k_De_decode_93 (-1) t k).bind S1 = (f_De_fetchNumber (nI n) k).bind (fun r13 => S1 (r13.1, z_sL (z_sL r13.2 9 (z_gL r13.2 7)) 10 ((z_gL (z_sL r13.2 9 (z_gL r13.2 7)) 0) + ((z_gI (z_sL r13.2 9 (z_gL r13.2 7)) 3).toInt64)))) := by
    unfold k_De_decode_93
    rw [if_pos rfl, hb, po_bs2, Option.bind_assoc]
    rfl
  rw [e]
  unfold e_f_Mo_number
  rw [eb_eb]
  refine r_b (r_andM (num_rel h1 h8 hk h) (num_sx h1 h8 m)) (fun o f c g1 g2 => S1_no _ f c g1 (KF_s (KF_s g2 (by decide)) (by decide))) (fun o b hb => ?_)
  obtain ⟨⟨q1, q2, q3, q4⟩, q5⟩ := hb
  show z_r k0 ((f_Op_open (z_sL (z_sL o 9 (z_gL o 7)) 10 (z_gL o 0 + (z_gI o 3).toInt64))).bind S2) (l (b.1, z_sL b.2 7 ((z_gL b.2 0) + (z_gI b.2 6).toInt64))) Q
  have hd : D9 k m (z_sL (z_sL o 9 (z_gL o 7)) 10 (z_gL o 0 + (z_gI o 3).toInt64)) (z_sL b.2 7 ((z_gL b.2 0) + (z_gI b.2 6).toInt64)) := by
    refine ⟨DR_fr (DR_sL (DR_sL q1 9 _ (by decide)) 10 _ (by decide)) (Lk := []) (Ik := []) (Mk := []) (Nk := []) (Lm := [7]) (Im := []) (Mm := []) (Nm := []) fr_0 (fr_sL fr_0 (by decide)) (by decide) (by decide) (by decide) (by decide) (by decide) (by decide) (by decide), DR_n q1, ?_, ?_⟩
    · exact fr_sL (fr_sL (fr_w q2 (by decide) (by decide) (by decide) (by decide)) (by decide)) (by decide)
    · exact fr_sL (fr_w q3 (by decide) (by decide) (by decide) (by decide)) (by decide)
  exact ha _ _ hd q4 (DR_n q1) (D9_k hd hk) q5
theorem dec_9n2 {β : Type} {o t : Int32} {k0 k m : z_Sg} (h : P9 o k0 k m) {n : Nat} (h1 : 1 ≤ n) (h8 : n ≤ 8) (hb : f_De_bytesOfNumber t k = some (nI n)) {l : Int64 × z_Sg → Option (Sum z_Dd β)} {Q : z_Sg → β → Prop} (ha : ∀ k' b, PO o k0 k' b.2 → z_gL k' 9 = b.1 → z_gI k' 6 = z_gI k 6 → z_gI k' 5 = z_gI k 5 → sx b.1 n = b.1 → z_r k0 ((f_Op_open k').bind S2) (l b) Q) : z_r k0 ((k_De_decode_93 (-1) t k).bind S1) (z_eb (e_f_Mo_number (nI n) m) l) Q := by
  refine dec9_n2 (TQ_k h.1) (TQ_d h.1) h1 h8 hb (fun k' b hd h9 hg hk' hsx => ?_)
  exact ha k' b (P9_9 h hd hg) h9 (fr_I hd.2.2.1 6 (by decide)) (fr_I hd.2.2.1 5 (by decide)) hsx
theorem g_imul3 {k0 k m : z_Sg} {n : Nat} (hc : n = 105 ∨ n = 107) (h : TQ (nI n) k0 k m) : z_r k0 ((k_De_decode_43 (-1) (nI (foT n)) k).bind S1) (e_f_Mo_product (nI n) m) FQQ := by
  have gen : ∀ n, n = 105 ∨ n = 107 → n < 256 ∧ oE n = true ∧ eE n = true ∧ flE n = true ∧ srE n = true ∧ onE n = true ∧ (¬ nI (foT n) = 0 ∧ (nI (foT n) &&& (4 : Int32)) = 0 ∧ ¬ (nI (foT n) &&& (2 : Int32)) = 0) ∧ n % 2 = 1 := by
    rintro n (rfl | rfl) <;> decide
  obtain ⟨n1, n2, n3, n4, n5, n6, ⟨t1, t2, t3⟩, n7⟩ := gen n hc
  have hz2 := szV_in (z_gI m 10) (z_gI m 16)
  have hz4 := z4_in (z_gI m 10) (z_gI m 16)
  unfold e_f_Mo_product
  rw [M_wide, po_bs2]
  refine run_o9 (by omega) n2 t1 t2 t3 h (fun k1 m1 hp hg e6 e5 e10 e16 => ?_)
  have e0 : (if nI n = (175 : Int32) then ((f_Mo_g (nI (szV (z_gI m 10) (z_gI m 16))) m1).bind (fun r17 => ((f_Mo_extended r17 (nI (szV (z_gI m 10) (z_gI m 16))) m1).bind (fun r18 => (e_k_Mo_product_46 (nI (szV (z_gI m 10) (z_gI m 16))) r18 m1))))) else (if nI n = (107 : Int32) then (e_k_Mo_product_43 (nI (szV (z_gI m 10) (z_gI m 16))) (1 : Int32) m1) else ((f_Mo_four (nI (szV (z_gI m 10) (z_gI m 16))) m1).bind (fun r5 => (e_k_Mo_product_43 (nI (szV (z_gI m 10) (z_gI m 16))) r5 m1))))) = e_k_Mo_product_43 (nI (szV (z_gI m 10) (z_gI m 16))) (nI (if n = 105 then z4 (z_gI m 10) (z_gI m 16) else 1)) m1 := by
    rcases hc with rfl | rfl
    · rw [if_neg (by decide), if_neg (by decide), M_four (by omega), po_bs2]; rfl
    · rfl
  rw [e0]
  unfold e_k_Mo_product_43
  have nb : 1 ≤ (if n = 105 then z4 (z_gI m 10) (z_gI m 16) else 1) ∧ (if n = 105 then z4 (z_gI m 10) (z_gI m 16) else 1) ≤ szV (z_gI m 10) (z_gI m 16) := by split <;> omega
  have hbn : f_De_bytesOfNumber (nI (foT n)) k1 = some (nI (if n = 105 then z4 (z_gI m 10) (z_gI m 16) else 1)) := by
    have o1 := TQ_o hp.1
    rcases hc with rfl | rfl
    · refine (bn_z (t := nI (foT 105)) (k := k1) (by decide) (by rw [o1]; decide) (by rw [o1]; decide)).trans ?_
      rw [e6, e5]; rfl
    · exact bn_1 (by decide)
  refine dec_9n2 hp nb.1 (by omega) hbn (fun k2 b hq h9 g6 g5 hsx => ?_)
  have hb : f_Op_bytesOfE k2 = some (nI (szV (z_gI m 10) (z_gI m 16))) := by
    rw [be_1 n1 (by omega) hq.1.2.2.2.1, g6, g5, e6, e5]
    unfold szO; rw [if_neg (by omega)]
  unfold e_k_Mo_product_46
  refine run_e (by omega) n3 hq (Or.inl rfl) (by omega) (by omega) hb (fun k' e _ => ?_) (fun k3 m3 v q1 q2 q3 q4 q5 q6 q7 q8 q9 q10 => ?_)
  · rcases hc with rfl | rfl <;> (unfold f_Op_isWritten; rw [e]; rfl)
  · refine ex_1 n1 n4 n5 q5 ?_
    rw [on_215 n1 n6 q5, q6, q7, g6, g5, e6, e5]
    have es : szO n (z_gI m 10) (z_gI m 16) = szV (z_gI m 10) (z_gI m 16) := by unfold szO; rw [if_neg (by omega)]
    rw [es]
    have ee : ∀ x, f_On_executeSingle x k3 = k_On_executeSingle_168 x k3 := by
      intro x
      rcases hc with rfl | rfl <;> (unfold f_On_executeSingle; rw [q5]; rfl)
    rw [ee]
    have hs2 : sx b.1 (szV (z_gI m 10) (z_gI m 16)) = b.1 := by rw [← hsx]; exact sx_sx nb.1 nb.2 (by omega)
    have := prod_r (k0 := k0) q1.1 q2.1 hz2 (v := v) (t := b.1) (a := v) (b := b.1) hs2 (by unfold prP; rw [if_pos rfl, hs2]) (fun h8 => by rw [h8, sx_8]) (C := fun x => (x.bind k_On_executeSingle_432).bind k_On_execute_223) (fun q => rfl)
    refine r_eqK ?_ this
    unfold k_On_executeSingle_168
    rw [q3, po_bs2, q9, h9]
    cases f_Wi_multiply v b.1 (nI (szV (z_gI m 10) (z_gI m 16))) 1 k3 <;> rfl
theorem g_imul2 {k0 k m : z_Sg} (h : TQ (nI 431) k0 k m) : z_r k0 ((k_De_decode_43 (-1) 2 k).bind S1) (e_f_Mo_product (nI 175) m) FQQ := by
  have hz2 := szV_in (z_gI m 10) (z_gI m 16)
  unfold e_f_Mo_product
  rw [M_wide, po_bs2]
  refine run_o (n := 431) (by decide) (by decide) h (fun k2 m1 hq g6 g5 e10 e16 => ?_)
  rw [if_pos (show nI 175 = (175 : Int32) from rfl)]
  obtain ⟨gv, gv1, gv2, gv3⟩ := g_r hq.1.1.1 hq.2.1 (n := szV (z_gI m 10) (z_gI m 16)) (by omega) (by omega)
  rw [gv2, po_bs2, M_extended _ (by omega) (by omega), po_bs2]
  unfold e_k_Mo_product_46
  refine run_e (n := 431) (by decide) (by decide) hq (Or.inl rfl) (by omega) (by omega) ?_ (fun k' e _ => ?_) (fun k3 m3 v q1 q2 q3 q4 q5 q6 q7 q8 q9 q10 => ?_)
  · rw [be_2 (n := 431) (by decide) (by decide) (by decide) hq.1.2.2.2.1, if_neg (by decide), g6, g5]
  · unfold f_Op_isWritten; rw [e]; rfl
  · refine ex_2 (n := 431) (by decide) (by decide) (by decide) q5 ?_
    rw [tw_s (n := 431) (by decide) (by decide) (by decide) q5]
    have ee : f_Tw_executeSingle (nI (431 - 256)) k3 = (f_De_sizeV k3).bind (fun r1 => (f_Op_g r1 k3).bind (fun r19 => (f_Op_value k3).bind (fun r20 => (f_Wi_multiply r19 r20 r1 (1 : Int32) k3).bind (fun r21 => (f_Op_putG (z_gL r21 11) r1 r21).bind (fun r22 => k_Tw_executeSingle_320 r22))))) := rfl
    obtain ⟨gw, gw1, gw2, _⟩ := g_r q1.1.1 q2.1 (n := szV (z_gI m 10) (z_gI m 16)) (by omega) (by omega)
    rw [g_fr _ q10, gv2] at gw2
    cases gw2
    have hs2 : sx (sx gv (szV (z_gI m 10) (z_gI m 16))) (szV (z_gI m 10) (z_gI m 16)) = sx gv (szV (z_gI m 10) (z_gI m 16)) := sx_sx (by omega) (Nat.le_refl _) (by omega)
    have := prod_r (k0 := k0) q1.1 q2.1 hz2 (v := v) (t := sx gv (szV (z_gI m 10) (z_gI m 16))) (a := gv) (b := v) hs2 (by unfold prP; rw [if_pos rfl, Int64.mul_comm]) (fun h8 => by rw [h8, sx_8, sx_8, sH_comm]) (C := fun x => (x.bind k_Tw_executeSingle_320).bind k_Tw_execute_121) (fun q => rfl)
    refine r_eqK ?_ this
    rw [ee, K_sizeV, po_bs2, q6, q7, g6, g5, gw1, po_bs2, q3, po_bs2]
    cases f_Wi_multiply gv v (nI (szV (z_gI m 10) (z_gI m 16))) 1 k3 <;> rfl
