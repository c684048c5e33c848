def KX (k0 k : z_Sg) : Prop := ∃ f c, KF k0 k f c
theorem KX_fr {k0 k k' : z_Sg} (h : KX k0 k) {Ls Is Ms Ns : List Nat} (fk : fr Ls Is Ms Ns k k') (h1 : ∀ j ∈ Ls, 6 ≤ j) (h2 : ∀ j ∈ Is, 3 ≤ j) (h3 : ∀ j ∈ Ms, 2 ≤ j) : KX k0 k' := KF_1 (h.choose_spec.choose_spec) k' (fK_KF ⟨_, _, _, _, fk, h1, h2, h3⟩)
theorem top_r {β : Type} {k0 k m : z_Sg} (hk : KX k0 k) (hS : Sim k m) (hE : EQn k m) {p : Int64} {how st st' : Int32} {n : Nat} (hn : n ≤ 8) {K : Int32 × z_Sg → Option (Int32 × z_Sg)} {L : z_Sg → Option (Sum z_Dd β)} {Q : z_Sg → β → Prop} (hd : ∀ (o : Int32 × z_Sg) (f : Int64) (c : Int32), ¬ o.1 = -1 → KF k0 o.2 f c → z_po (K o) (fun o' => ¬ o'.1 = -1 ∧ KF k0 o'.2 f c)) (ha : ∀ k1 m1, fr [] [17] [3] [] k k1 → fr [] [1] [3] [] m m1 → EQn k1 m1 → z_gI k1 17 = nI n → (∀ i, i < n → z_gM k1 3 i = z_gM m1 3 i ∧ ¬ z_gM m1 3 i < 0) → KX k0 k1 → z_r k0 (K (-1, k1)) (L m1) Q) : z_r k0 ((f_Sp_find_12 p (nI n) how st k).bind K) (z_eb (e_f_Mo_lookUp p (nI n) how st' m) L) Q := by
  refine r_b (find_rel_12 (KF_n hk) hS hn) hd (fun k1 m1 hq => ?_)
  obtain ⟨q1, q2, q3, q4⟩ := hq
  exact ha k1 m1 q1 q2 (EQn_k hE q1 q2 (by decide) (by decide) (by decide) (by decide) (by decide) (by decide) (by decide)) q3 q4 (KX_fr hk q1 (by decide) (by decide) (by decide))
theorem EQn_hold {k m k' m' : z_Sg} (h : EQn k m) (h5 : z_gI m 5 = 0) {Ik Mk Im Mm Nm : List Nat} (fk : fr [] Ik Mk [] k k') (fm : fr [] Im Mm Nm m m') (i1 : ∀ j ∈ Ik, 12 ≤ j) (i2 : ∀ j ∈ Im, j = 1 ∨ j = 5) (i3 : Nm = [3]) (hr : ∀ i, i < 16 → z_gM k' 0 i = z_gM m' 0 i) {n : Nat} (hn : n ≤ 8) (hw : z_gI m' 5 = nI n) {A : Nat → Int64} {B : Nat → Int32} (hB : ∀ y, kB (z_gM k' 1) y = bw (kB (z_gM k 1)) A B n y) (hA : ∀ j, j < n → A j = z_gM m' 2 j ∧ (B j &&& 255) = (z_gN m' 3 j &&& 255) ∧ ¬ z_gM m' 2 j < 0) : EQn k' m' := by
  have hm := memW_0 h h5
  subst i3
  obtain ⟨s0, s1, s2, _, s4, s5, s6, s7⟩ := h
  have ki : ∀ j, j < 12 → z_gI k' j = z_gI k j := fun j hj => fr_I fk j (fun x => by have := i1 j x; omega)
  have mi : ∀ j, (j ≠ 1 ∧ j ≠ 5) → z_gI m' j = z_gI m j := fun j hj => fr_I fm j (fun x => by have := i2 j x; omega)
  refine ⟨hr, fun j hj => ?_, ?_, ⟨n, hn, hw, fun j hj => (hA j hj).2.2, fun y => ?_⟩, ?_, ?_, ?_, ?_⟩
  · rw [fr_L fk j (by simp), fr_L fm j (by simp)]; exact s1 j hj
  · rw [ki 1 (by omega), mi 0 (by omega)]; exact s2
  · rw [hB y, fr_N fm 0 (by decide)]
    exact bw_congr hm (fun j hj => ⟨(hA j hj).1, (hA j hj).2.1⟩) y
  · rw [mi 4 (by omega)]; exact s4
  · rw [ki 6 (by omega), mi 10 (by omega)]; exact s5
  · rw [ki 10 (by omega), mi 11 (by omega)]; exact s6
  · rw [ki 5 (by omega), mi 16 (by omega)]; exact s7
theorem by_em {n : Nat} {v v' : Int64} (hv : em n v v') {j : Nat} (hj : j < n) (hn : n ≤ 8) : ((z_lushr v (nI (8 * j))).toInt32 &&& 255) = (((z_lushr v' (nI (8 * j))) &&& 255).toInt32 &&& 255) := by
  refine tI_ext (fun i hi => ?_)
  rw [tI_and, tI_and, tI_255, tI_l2i, tI_l2i, tb_and, tb_255, tb_ushr _ _ (by omega), tb_ushr _ _ (by omega), decide_eq_true hi]
  by_cases c8 : i < 8
  · rw [decide_eq_true c8, hv (i + 8 * j) (by omega)]; simp
  · rw [decide_eq_false c8]; simp
theorem push_r {β : Type} {k0 k m : z_Sg} (hk : KX k0 k) (hS : Sim k m) (hE : EQn k m) (h5 : z_gI m 5 = 0) {n : Nat} (hn : n ≤ 8) {v v' : Int64} (hv : em n v v') {K : Int32 × z_Sg → Option (Int32 × z_Sg)} {L : z_Sg → Option (Sum z_Dd β)} {Q : z_Sg → β → Prop} (hd : ∀ (o : Int32 × z_Sg) (f : Int64) (c : Int32), ¬ o.1 = -1 → KF k0 o.2 f c → z_po (K o) (fun o' => ¬ o'.1 = -1 ∧ KF k0 o'.2 f c)) (ha : ∀ k' m', EQn k' m' → fr [] [17] [0, 1, 3] [] k k' → fr [] [1, 5] [0, 2, 3] [3] m m' → z_r k0 (K (-1, k')) (L m') Q) : z_r k0 ((f_Fl_push v (nI n) k).bind K) (z_eb (e_f_Mo_push v' (nI n) m) L) Q := by
  unfold f_Fl_push e_f_Mo_push
  have b4 : ¬ z_bad (4 : Int32) 16 := by decide
  rw [if_neg b4, if_neg b4, po_nm2, eb_eb, Option.bind_assoc]
  show z_r k0 ((f_Sp_find_12 (z_gM k 0 4 - (nI n).toInt64) (nI n) 1 1 k).bind _) (z_eb (e_f_Mo_lookUp (z_gM m 0 4 - (nI n).toInt64) (nI n) 1 1 m) _) Q
  rw [EQn_r hE (show 4 < 16 by decide)]
  refine top_r hk hS hE hn (fun o f c g1 g2 => ?_) (fun k1 m1 f1 f2 hE1 hl hs hk1 => ?_)
  · unfold k_Fl_push_53
    rw [if_neg g1, po_bs2]
    exact hd (o.1, o.2) f c g1 g2
  · obtain ⟨k2, p1, p2, p3⟩ := K_put_12 hn hl v
    have h51 : z_gI m1 5 = 0 := by rw [fr_I f2 5 (by decide)]; exact h5
    have al1 : z_gI m1 4 = -1 := EQn_a hE1
    obtain ⟨m2, q1, q2, q3, q4⟩ := M_hold (m := z_sM m1 0 4 (z_gM m1 0 4 - (nI n).toInt64)) hn al1 h51 v'
    rw [if_pos rfl, p1, po_bs2, if_neg b4, po_nm2, if_neg b4, if_neg b4, po_nm2]
    show z_r k0 (K (-1, z_sM k2 0 4 (z_gM k 0 4 - (nI n).toInt64))) (z_eb ((f_Mo_hold v' (nI n) (z_sM m1 0 4 (z_gM m1 0 4 - (nI n).toInt64))).bind _) L) Q
    rw [q1, po_bs2, eb_s, EQn_r hE (show 4 < 16 by decide)]
    have fk : fr [] [] [0, 1] [] k1 (z_sM k2 0 4 (z_gM m 0 4 - (nI n).toInt64)) := fr_sM (fr_w p2 (by decide) (by decide) (by decide) (by decide)) (by decide)
    have fm : fr [] [5] [0, 2] [3] m1 m2 := fr_t (fr_sM fr_0 (by decide)) (fr_w q2 (by decide) (by decide) (by decide) (by decide))
    refine ha _ _ (EQn_hold hE1 h51 fk fm (by decide) (by decide) rfl (fun i hi => ?_) hn q3 (A := z_gM k1 3) (B := fun i => (z_lushr v (nI (8 * i))).toInt32) p3 (fun j hj => ⟨?_, ?_, ?_⟩)) (fr_t (fr_w f1 (by decide) (by decide) (by decide) (by decide)) (fr_w fk (by decide) (by decide) (by decide) (by decide))) (fr_t (fr_w f2 (by decide) (by decide) (by decide) (by decide)) (fr_w fm (by decide) (by decide) (by decide) (by decide)))
    · rw [fr_M q2 0 (by decide), gM_s0, gM_s0, fr_M p2 0 (by decide), fr_M f2 0 (by decide)]
      by_cases c : i = 4
      · rw [if_pos c, if_pos c]
      · rw [if_neg c, if_neg c, EQn_r hE1 hi, fr_M f2 0 (by decide)]
    · rw [(q4 j hj).1]; exact (hs j hj).1
    · rw [(q4 j hj).2]; exact by_em hv hj hn
    · rw [(q4 j hj).1]; exact (hs j hj).2
theorem val_12 {k m : z_Sg} (hE : EQn k m) (h5 : z_gI m 5 = 0) {n : Nat} (hn : n ≤ 8) (hl : z_gI k 17 = nI n) (hs : ∀ i, i < n → z_gM k 3 i = z_gM m 3 i ∧ ¬ z_gM m 3 i < 0) : ∃ v, f_Mo_held (nI n) m = some v ∧ v &&& mk n = v ∧ ∀ k2, z_gM k2 1 = z_gM k 1 → z_gM k2 3 = z_gM k 3 → z_gI k2 17 = z_gI k 17 → f_Sp_value_12 k2 = some v := by
  refine ⟨_, M_held hn, asm_mk (fun k b hb => mB_8 _ _ b hb) hn, fun k2 e1 e2 e3 => ?_⟩
  rw [K_value_12 hn (e3.trans hl), e1, e2]
  have hm := memW_0 hE h5
  congr 1
  refine asm_congr (fun i hi => ?_)
  rw [hm, (hs i hi).1]
theorem load_r {β : Type} {k0 k m : z_Sg} (hk : KX k0 k) (hS : Sim k m) (hE : EQn k m) (h5 : z_gI m 5 = 0) {p : Int64} {st st' : Int32} {n : Nat} (hn : n ≤ 8) {K : Int32 × z_Sg → Option (Int32 × z_Sg)} {L : Int64 × z_Sg → Option (Sum z_Dd β)} {Q : z_Sg → β → Prop} (hd : ∀ (o : Int32 × z_Sg) (f : Int64) (c : Int32), ¬ o.1 = -1 → KF k0 o.2 f c → z_po (K o) (fun o' => ¬ o'.1 = -1 ∧ KF k0 o'.2 f c)) (ha : ∀ k1 m1 v, fr [] [17] [3] [] k k1 → fr [] [1] [3] [] m m1 → EQn k1 m1 → KX k0 k1 → v &&& mk n = v → (∀ k2, z_gM k2 1 = z_gM k1 1 → z_gM k2 3 = z_gM k1 3 → z_gI k2 17 = z_gI k1 17 → f_Sp_value_12 k2 = some v) → z_r k0 (K (-1, k1)) (L (v, m1)) Q) : z_r k0 ((f_Sp_find_12 p (nI n) 0 st k).bind K) (z_eb (e_f_Mo_load p (nI n) st' m) L) Q := by
  unfold e_f_Mo_load
  rw [eb_eb]
  refine top_r hk hS hE hn hd (fun k1 m1 f1 f2 hE1 hl hs hk1 => ?_)
  have h51 : z_gI m1 5 = 0 := by rw [fr_I f2 5 (by decide)]; exact h5
  obtain ⟨v, v1, v2, v3⟩ := val_12 hE1 h51 hn hl hs
  rw [v1, po_bs2]
  exact ha k1 m1 v f1 f2 hE1 hk1 v2 v3
theorem pop_r {β : Type} {k0 k m : z_Sg} (hk : KX k0 k) (hS : Sim k m) (hE : EQn k m) (h5 : z_gI m 5 = 0) {n : Nat} (hn : n ≤ 8) {K : Int32 × z_Sg → Option (Int32 × z_Sg)} {L : Int64 × z_Sg → Option (Sum z_Dd β)} {Q : z_Sg → β → Prop} (hd : ∀ (o : Int32 × z_Sg) (f : Int64) (c : Int32), ¬ o.1 = -1 → KF k0 o.2 f c → z_po (K o) (fun o' => ¬ o'.1 = -1 ∧ KF k0 o'.2 f c)) (ha : ∀ k1 m1 v, fr [] [17] [3] [] k k1 → fr [] [1] [3] [] m m1 → EQn k1 m1 → KX k0 k1 → v &&& mk n = v → (∀ k2, z_gM k2 1 = z_gM k1 1 → z_gM k2 3 = z_gM k1 3 → z_gI k2 17 = z_gI k1 17 → f_Sp_value_12 k2 = some v) → z_r k0 (K (-1, k1)) (L (v, z_sM m1 0 4 (z_gM m1 0 4 + (nI n).toInt64))) Q) : z_r k0 ((f_Fl_findTop (nI n) k).bind K) (z_eb (e_f_Mo_pop (nI n) m) L) Q := by
  unfold f_Fl_findTop e_f_Mo_pop
  have b4 : ¬ z_bad (4 : Int32) 16 := by decide
  rw [if_neg b4, if_neg b4, eb_eb, Option.bind_assoc]
  show z_r k0 ((f_Sp_find_12 (z_gM k 0 4) (nI n) 0 1 k).bind _) (z_eb (e_f_Mo_load (z_gM m 0 4) (nI n) 1 m) _) Q
  rw [EQn_r hE (show 4 < 16 by decide)]
  refine load_r hk hS hE h5 hn (fun o f c g1 g2 => ?_) (fun k1 m1 v f1 f2 hE1 hk1 v1 v2 => ?_)
  · rw [po_bs2]; exact hd (o.1, o.2) f c g1 g2
  · rw [if_neg b4, if_neg b4, po_nm2]
    exact ha k1 m1 v f1 f2 hE1 hk1 v1 v2
theorem szS_8 (rex small : Int32) : (szS rex small = 2 ∨ szS rex small = 8) := by
  unfold szS
  split <;> simp
theorem EQ_of {k m k' m' : z_Sg} (h : EQ k m) (hn : EQn k' m') {Ik Mk Im Mm Nm : List Nat} (fk : fr [] Ik Mk [] k k') (fm : fr [] Im Mm Nm m m') (i1 : ∀ j ∈ Ik, 3 ≤ j) (i2 : 2 ∉ Im) (i3 : 1 ∉ Nm) : EQ k' m' := by
  obtain ⟨e1, e2, e3, e4⟩ := h
  refine ⟨hn, ?_, ?_, ?_⟩
  · rw [fr_I fk 0 (fun x => by have := i1 0 x; omega), fr_N fm 1 i3]; exact e2
  · rw [fr_I fk 2 (fun x => by have := i1 2 x; omega), fr_I fm 2 i2]; exact e3
  · rw [fr_L fk 10 (by simp), fr_L fm 7 (by simp)]; exact e4
theorem szS_eq {k m : z_Sg} (h : EQn k m) : szS (z_gI k 6) (z_gI k 5) = szS (z_gI m 10) (z_gI m 16) := by rw [EQn_x h, EQn_s h]
theorem K_szS {k m : z_Sg} (h : EQn k m) : f_De_sizeOnStack k = some (nI (szS (z_gI m 10) (z_gI m 16))) := by rw [K_sizeOnStack, szS_eq h]
theorem push_fin {k0 k m : z_Sg} (hk : KX k0 k) (hE : EQ k m) (h5 : z_gI m 5 = 0) {n : Nat} (hn : n ≤ 8) {v v' : Int64} (hv : em n v v') : z_r k0 (((f_Fl_push v (nI n) k).bind (fun r => some (r.1, r.2))).bind S3) (e_f_Mo_push v' (nI n) m) FQQ := by
  have e : ∀ x : Option (Sum z_Dd z_Sg), x = z_eb x (fun r => some (.inr r)) := fun x => by
    cases x with
    | none => rfl
    | some r => cases r <;> rfl
  rw [e (e_f_Mo_push v' (nI n) m), Option.bind_assoc]
  refine push_r hk (EQ_Sim hE h5) hE.1 h5 hn hv (fun o f c g1 g2 => ?_) (fun k' m' hE' f1 f2 => ?_)
  · rw [po_bs2]; exact S3_no _ f c g1 g2
  · exact fin (EQ_of hE hE' f1 f2 (by decide) (by decide) (by decide))
theorem g_push {k0 k m : z_Sg} {n : Nat} (h1 : 80 ≤ n) (h2 : n < 88) (h : TQ (nI n) k0 k m) (hg : z_gL m 7 = z_gL m 0 + (z_gI m 6).toInt64) : z_r k0 ((k_De_decode_43 (-1) 1 k).bind S1) (e_f_Mo_shortStack (nI n) m) FQQ := by
  have fx : ∀ n, n < 88 → 80 ≤ n → (!(decide (n / 8 = 57)) && !(decide (n = 246)) && !(decide (n = 247)) = true) ∧ (nI n &&& (-8 : Int32)) = 80 ∧ ¬ (88 : Int32) ≤ nI n := by decide +kernel
  obtain ⟨f1, f2, f3⟩ := fx n h2 h1
  refine run_a (by omega) f1 h hg (fun k' hp ho => ?_)
  obtain ⟨e, j, hj, y1, y2, y3, _, _⟩ := rO (by omega) ho (EQn_x hp.1.1)
  have hF : f_Fl_execute k' = (f_De_registerO k').bind (fun r2 => (f_Op_part r2 (8 : Int32) k').bind (fun r3 => (f_De_sizeOnStack k').bind (fun r4 => (f_Fl_push r3 r4 k').bind (fun r5 => some (r5.1, r5.2))))) := by
    unfold f_Fl_execute
    rw [ho, if_pos f2]
  have hpt : f_Op_part (nI j) 8 k' = some (z_gM m 0 j &&& mk 8) := by
    have := K_part (k := k') (j := j) (n := 8) hj (by decide) (by decide)
    rw [no_hi (by decide), EQn_r hp.1.1 hj] at this
    exact this
  rw [y1, po_bs2, hpt, po_bs2, K_szS hp.1.1, po_bs2] at hF
  refine ex_fl hF (n2_p (n2_push _ _ _)) ?_
  unfold e_f_Mo_shortStack
  rw [y2, po_bs2, po_nm2, (o_mod (by omega)).2, y3, if_neg f3, if_neg (in16 hj), M_stackSize, po_bs2, z_clp (by omega)]
  have e415 : ∀ x : Option (Sum z_Dd z_Sg), z_eb x (fun r10 => ((k_Mo_shortStack_51 r10).bind (fun o => some (.inr o)))) = x := fun x => eb_id x k_Mo_shortStack_51 (fun _ => rfl)
  rw [e415]
  have hz := szS_8 (z_gI m 10) (z_gI m 16)
  exact push_fin hp.2.2.1 hp.1 hp.2.1 (by omega) (em_le (by omega) (em_mk (by decide) _))
theorem popR_fin {k0 k m : z_Sg} (hk : KX k0 k) (hE : EQ k m) (h5 : z_gI m 5 = 0) {j : Nat} (hj : j < 16) {K : Int32 × z_Sg → Option (Int32 × z_Sg)} (hK : ∀ o, K o = some o) {L : Int64 × z_Sg → Option (Sum z_Dd z_Sg)} (hL : ∀ v m1, fr [] [1] [0, 3] [] m m1 → L (v, m1) = (f_Mo_put8 (nI j) (nI (szS (z_gI m 10) (z_gI m 16))) v m1).bind (fun o => some (.inr o))) : z_r k0 (((f_Fl_popRegister (nI j) k).bind K).bind S3) (z_eb (e_f_Mo_pop (nI (szS (z_gI m 10) (z_gI m 16))) m) L) FQQ := by
  have hz := szS_8 (z_gI m 10) (z_gI m 16)
  unfold f_Fl_popRegister
  rw [K_szS hE.1, po_bs2, Option.bind_assoc, Option.bind_assoc]
  refine pop_r hk (EQ_Sim hE h5) hE.1 h5 (by omega) (fun o f c g1 g2 => ?_) (fun k1 m1 v f1 f2 hE1 hk1 v1 v2 => ?_)
  · unfold k_Fl_popRegister_49
    rw [if_neg g1, po_bs2, hK, po_bs2]
    exact S3_no _ f c g1 g2
  · have b4 : ¬ z_bad (4 : Int32) 16 := by decide
    rw [if_pos rfl, if_neg b4, if_neg b4, po_nm2]
    show z_r k0 (((f_Sp_value_12 (z_sM k1 0 4 (z_gM k1 0 4 + (nI (szS (z_gI m 10) (z_gI m 16))).toInt64))).bind (fun r7 => (f_Op_putPart (nI j) r7 (nI (szS (z_gI m 10) (z_gI m 16))) (z_sM k1 0 4 (z_gM k1 0 4 + (nI (szS (z_gI m 10) (z_gI m 16))).toInt64))).bind (fun r8 => k_Fl_popRegister_49 (-1) r8))).bind (fun y => (K y).bind S3)) _ FQQ
    rw [v2 (z_sM k1 0 4 (z_gM k1 0 4 + (nI (szS (z_gI m 10) (z_gI m 16))).toInt64)) rfl rfl rfl, po_bs2, EQn_r hE1 (show 4 < 16 by decide)]
    have hE2 := EQn_reg hE1 4 (z_gM m1 0 4 + (nI (szS (z_gI m 10) (z_gI m 16))).toInt64)
    obtain ⟨k3, m3, p1, p2, p3, p4, p5⟩ := put_r hE2 hj (by omega) (by omega) (em_r (szS (z_gI m 10) (z_gI m 16)) v)
    rw [p1, hL v _ (fr_sM (fr_w f2 (by decide) (by decide) (by decide) (by decide)) (by decide)), p2, po_bs2]
    show z_r k0 (((K (-1, k3))).bind S3) (some (.inr m3)) FQQ
    rw [hK, po_bs2]
    refine fin (EQ_of hE p3 (Ik := [17]) (Mk := [0, 3]) (Im := [1]) (Mm := [0, 3]) (Nm := []) ?_ ?_ (by decide) (by decide) (by decide))
    · exact fr_t (fr_w f1 (by decide) (by decide) (by decide) (by decide)) (fr_t (fr_sM fr_0 (by decide)) (fr_w p4 (by decide) (by decide) (by decide) (by decide)))
    · exact fr_t (fr_w f2 (by decide) (by decide) (by decide) (by decide)) (fr_t (fr_sM fr_0 (by decide)) (fr_w p5 (by decide) (by decide) (by decide) (by decide)))
theorem g_pop {k0 k m : z_Sg} {n : Nat} (h1 : 88 ≤ n) (h2 : n < 96) (h : TQ (nI n) k0 k m) (hg : z_gL m 7 = z_gL m 0 + (z_gI m 6).toInt64) : z_r k0 ((k_De_decode_43 (-1) 1 k).bind S1) (e_f_Mo_shortStack (nI n) m) FQQ := by
  have fx : ∀ n, n < 96 → 88 ≤ n → (!(decide (n / 8 = 57)) && !(decide (n = 246)) && !(decide (n = 247)) = true) ∧ ¬ (nI n &&& (-8 : Int32)) = 80 ∧ (nI n &&& (-8 : Int32)) = 88 ∧ (88 : Int32) ≤ nI n := by decide +kernel
  obtain ⟨f1, f2, f2', f3⟩ := fx n h2 h1
  refine run_a (by omega) f1 h hg (fun k' hp ho => ?_)
  obtain ⟨e, j, hj, y1, y2, y3, _, _⟩ := rO (by omega) ho (EQn_x hp.1.1)
  have hF : f_Fl_execute k' = (f_De_registerO k').bind (fun r7 => (f_Fl_popRegister r7 k').bind (fun r8 => some (r8.1, r8.2))) := by
    unfold f_Fl_execute
    rw [ho, if_neg f2, if_pos f2']
  rw [y1, po_bs2] at hF
  refine ex_fl hF (n2_p (n2_popR _ _)) ?_
  unfold e_f_Mo_shortStack
  rw [y2, po_bs2, po_nm2, (o_mod (by omega)).2, y3, if_pos f3, M_stackSize, po_bs2, po_bs2]
  refine popR_fin hp.2.2.1 hp.1 hp.2.1 hj (fun o => rfl) (fun v m1 hf => ?_)
  show (f_Mo_put8 (nI j) (nI (szS (z_gI m 10) (z_gI m 16))) v m1).bind _ = _
  cases f_Mo_put8 (nI j) (nI (szS (z_gI m 10) (z_gI m 16))) v m1 <;> rfl
