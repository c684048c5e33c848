theorem ite_fb {β : Type} (f : Nat → Int32) (j : Nat) (A : Int64 → Option β) (v : Int64) : (if f j = 0 then A 0 else A v) = A (if fb f j then v else 0) := by
  unfold fb
  by_cases h : f j = 0
  · rw [if_pos h, decide_eq_false (fun x => x h)]; rfl
  · rw [if_neg h, decide_eq_true h]; rfl
theorem M_flags (m : z_Sg) : f_Mo_flags m = some ((fw (z_gN m 1)).toInt64) := by
  have q : ∀ c p h z s d o : Bool, (((((((if c then (1 : Int64) else 0) + (if p then (4 : Int64) else 0)) + (if h then (16 : Int64) else 0)) + (if z then (64 : Int64) else 0)) + (if s then (128 : Int64) else 0)) + (if d then (1024 : Int64) else 0)) + (if o then (2048 : Int64) else 0)) = (fwB c p h z s d o).toInt64 := by decide +kernel
  have e : f_Mo_flags m = some (((((((if fb (z_gN m 1) 0 then (1 : Int64) else 0) + (if fb (z_gN m 1) 1 then (4 : Int64) else 0)) + (if fb (z_gN m 1) 2 then (16 : Int64) else 0)) + (if fb (z_gN m 1) 3 then (64 : Int64) else 0)) + (if fb (z_gN m 1) 4 then (128 : Int64) else 0)) + (if fb (z_gN m 1) 5 then (1024 : Int64) else 0)) + (if fb (z_gN m 1) 6 then (2048 : Int64) else 0)) := by
    have l6 : ∀ t u, k_Mo_flags_98 t u m = some ((t + u) + (if fb (z_gN m 1) 6 then (2048 : Int64) else 0)) := by
      intro t u
      unfold k_Mo_flags_98
      rw [if_neg (show ¬ z_bad (6 : Int32) 7 by decide)]
      exact ite_fb (z_gN m 1) 6 (fun x => k_Mo_flags_116 (t + u) x m) 2048
    have l5 : ∀ t u, k_Mo_flags_81 t u m = some (((t + u) + (if fb (z_gN m 1) 5 then (1024 : Int64) else 0)) + (if fb (z_gN m 1) 6 then (2048 : Int64) else 0)) := by
      intro t u
      unfold k_Mo_flags_81
      rw [if_neg (show ¬ z_bad (5 : Int32) 7 by decide)]
      exact (ite_fb (z_gN m 1) 5 (fun x => k_Mo_flags_98 (t + u) x m) 1024).trans (l6 _ _)
    have l4 : ∀ t u, k_Mo_flags_64 t u m = some ((((t + u) + (if fb (z_gN m 1) 4 then (128 : Int64) else 0)) + (if fb (z_gN m 1) 5 then (1024 : Int64) else 0)) + (if fb (z_gN m 1) 6 then (2048 : Int64) else 0)) := by
      intro t u
      unfold k_Mo_flags_64
      rw [if_neg (show ¬ z_bad (4 : Int32) 7 by decide)]
      exact (ite_fb (z_gN m 1) 4 (fun x => k_Mo_flags_81 (t + u) x m) 128).trans (l5 _ _)
    have l3 : ∀ t u, k_Mo_flags_47 t u m = some (((((t + u) + (if fb (z_gN m 1) 3 then (64 : Int64) else 0)) + (if fb (z_gN m 1) 4 then (128 : Int64) else 0)) + (if fb (z_gN m 1) 5 then (1024 : Int64) else 0)) + (if fb (z_gN m 1) 6 then (2048 : Int64) else 0)) := by
      intro t u
      unfold k_Mo_flags_47
      rw [if_neg (show ¬ z_bad (3 : Int32) 7 by decide)]
      exact (ite_fb (z_gN m 1) 3 (fun x => k_Mo_flags_64 (t + u) x m) 64).trans (l4 _ _)
    have l2 : ∀ t u, k_Mo_flags_30 t u m = some ((((((t + u) + (if fb (z_gN m 1) 2 then (16 : Int64) else 0)) + (if fb (z_gN m 1) 3 then (64 : Int64) else 0)) + (if fb (z_gN m 1) 4 then (128 : Int64) else 0)) + (if fb (z_gN m 1) 5 then (1024 : Int64) else 0)) + (if fb (z_gN m 1) 6 then (2048 : Int64) else 0)) := by
      intro t u
      unfold k_Mo_flags_30
      rw [if_neg (show ¬ z_bad (2 : Int32) 7 by decide)]
      exact (ite_fb (z_gN m 1) 2 (fun x => k_Mo_flags_47 (t + u) x m) 16).trans (l3 _ _)
    have l1 : ∀ t, k_Mo_flags_14 t m = some ((((((t + (if fb (z_gN m 1) 1 then (4 : Int64) else 0)) + (if fb (z_gN m 1) 2 then (16 : Int64) else 0)) + (if fb (z_gN m 1) 3 then (64 : Int64) else 0)) + (if fb (z_gN m 1) 4 then (128 : Int64) else 0)) + (if fb (z_gN m 1) 5 then (1024 : Int64) else 0)) + (if fb (z_gN m 1) 6 then (2048 : Int64) else 0)) := by
      intro t
      unfold k_Mo_flags_14
      rw [if_neg (show ¬ z_bad (1 : Int32) 7 by decide)]
      exact (ite_fb (z_gN m 1) 1 (fun x => k_Mo_flags_30 t x m) 4).trans (l2 _ _)
    unfold f_Mo_flags
    rw [if_neg (show ¬ z_bad (0 : Int32) 7 by decide)]
    exact (ite_fb (z_gN m 1) 0 (fun x => k_Mo_flags_14 x m) 1).trans (l1 _)
  rw [e, fw_B, q]
theorem i2l_or2 (x : Int32) : (x ||| (2 : Int32)).toInt64 = x.toInt64 ||| (2 : Int64) := by
  have t2 : ∀ i, i < 32 → tI 2 i = decide (i = 1) := by decide +kernel
  have u2 : ∀ i, i < 64 → tb 2 i = decide (i = 1) := by decide +kernel
  refine tb_ext (fun i hi => ?_)
  rw [tb_or, tb_i2l, tb_i2l, u2 i hi, decide_eq_true hi]
  by_cases c : i < 32
  · rw [if_pos c, if_pos c, tI_or, t2 i c]; rfl
  · rw [if_neg c, if_neg c, tI_or, t2 31 (by decide), decide_eq_false (show ¬ i = 1 by omega)]; simp
def sfF (v : Int64) (m : z_Sg) : z_Sg := z_sN (z_sN (z_sN (z_sN (z_sN (z_sN (z_sN m 1 0 (b2i (tb v 0))) 1 1 (b2i (tb v 2))) 1 2 (b2i (tb v 4))) 1 3 (b2i (tb v 6))) 1 4 (b2i (tb v 7))) 1 5 (b2i (tb v 10))) 1 6 (b2i (tb v 11))
theorem ite_tb {β : Type} (v w : Int64) {k : Nat} (hw : ∀ i, tb w i = decide (i = k)) (A : Int32 → Option β) : (if (v &&& w) = (0 : Int64) then A 0 else A 1) = A (b2i (tb v k)) := by
  cases h : tb v k with
  | true => rw [if_neg (fun x => by rw [(tb_and0 w hw).mp x] at h; cases h)]; rfl
  | false => rw [if_pos ((tb_and0 w hw).mpr h)]; rfl
theorem pw_t (k : Nat) (hk : k < 64) (w : Int64) (hw : w = lN (2 ^ k)) : ∀ i, tb w i = decide (i = k) := fun i => by rw [hw]; exact tb_pw i hk
theorem M_setFlags (v : Int64) (m : z_Sg) : f_Mo_setFlags v m = some (sfF v m) := by
  have l6 : ∀ (b : Bool) q, k_Mo_setFlags_123 v 5 (b2i b) q = some (z_sN (z_sN q 1 5 (b2i b)) 1 6 (b2i (tb v 11))) := by
    intro b q
    unfold k_Mo_setFlags_123
    rw [if_neg (show ¬ z_bad (5 : Int32) 7 by decide), po_nm2, b2i_nar]
    refine (ite_tb v 2048 (pw_t 11 (by decide) _ rfl) (fun x => k_Mo_setFlags_145 6 x _)).trans ?_
    unfold k_Mo_setFlags_145
    rw [if_neg (show ¬ z_bad (6 : Int32) 7 by decide), po_nm2, b2i_nar]; rfl
  have l5 : ∀ (b : Bool) q, k_Mo_setFlags_102 v 4 (b2i b) q = some (z_sN (z_sN (z_sN q 1 4 (b2i b)) 1 5 (b2i (tb v 10))) 1 6 (b2i (tb v 11))) := by
    intro b q
    unfold k_Mo_setFlags_102
    rw [if_neg (show ¬ z_bad (4 : Int32) 7 by decide), po_nm2, b2i_nar]
    exact (ite_tb v 1024 (pw_t 10 (by decide) _ rfl) (fun x => k_Mo_setFlags_123 v 5 x _)).trans (l6 _ _)
  have l4 : ∀ (b : Bool) q, k_Mo_setFlags_81 v 3 (b2i b) q = some (z_sN (z_sN (z_sN (z_sN q 1 3 (b2i b)) 1 4 (b2i (tb v 7))) 1 5 (b2i (tb v 10))) 1 6 (b2i (tb v 11))) := by
    intro b q
    unfold k_Mo_setFlags_81
    rw [if_neg (show ¬ z_bad (3 : Int32) 7 by decide), po_nm2, b2i_nar]
    exact (ite_tb v 128 (pw_t 7 (by decide) _ rfl) (fun x => k_Mo_setFlags_102 v 4 x _)).trans (l5 _ _)
  have l3 : ∀ (b : Bool) q, k_Mo_setFlags_60 v 2 (b2i b) q = some (z_sN (z_sN (z_sN (z_sN (z_sN q 1 2 (b2i b)) 1 3 (b2i (tb v 6))) 1 4 (b2i (tb v 7))) 1 5 (b2i (tb v 10))) 1 6 (b2i (tb v 11))) := by
    intro b q
    unfold k_Mo_setFlags_60
    rw [if_neg (show ¬ z_bad (2 : Int32) 7 by decide), po_nm2, b2i_nar]
    exact (ite_tb v 64 (pw_t 6 (by decide) _ rfl) (fun x => k_Mo_setFlags_81 v 3 x _)).trans (l4 _ _)
  have l2 : ∀ (b : Bool) q, k_Mo_setFlags_39 v 1 (b2i b) q = some (z_sN (z_sN (z_sN (z_sN (z_sN (z_sN q 1 1 (b2i b)) 1 2 (b2i (tb v 4))) 1 3 (b2i (tb v 6))) 1 4 (b2i (tb v 7))) 1 5 (b2i (tb v 10))) 1 6 (b2i (tb v 11))) := by
    intro b q
    unfold k_Mo_setFlags_39
    rw [if_neg (show ¬ z_bad (1 : Int32) 7 by decide), po_nm2, b2i_nar]
    exact (ite_tb v 16 (pw_t 4 (by decide) _ rfl) (fun x => k_Mo_setFlags_60 v 2 x _)).trans (l3 _ _)
  have l1 : ∀ (b : Bool) q, k_Mo_setFlags_18 v 0 (b2i b) q = some (z_sN (z_sN (z_sN (z_sN (z_sN (z_sN (z_sN q 1 0 (b2i b)) 1 1 (b2i (tb v 2))) 1 2 (b2i (tb v 4))) 1 3 (b2i (tb v 6))) 1 4 (b2i (tb v 7))) 1 5 (b2i (tb v 10))) 1 6 (b2i (tb v 11))) := by
    intro b q
    unfold k_Mo_setFlags_18
    rw [if_neg (show ¬ z_bad (0 : Int32) 7 by decide), po_nm2, b2i_nar]
    exact (ite_tb v 4 (pw_t 2 (by decide) _ rfl) (fun x => k_Mo_setFlags_39 v 1 x _)).trans (l2 _ _)
  unfold f_Mo_setFlags
  exact (ite_tb v 1 (pw_t 0 (by decide) _ rfl) (fun x => k_Mo_setFlags_18 v 0 x m)).trans (l1 _ _)
theorem fw_sf (v : Int64) (m : z_Sg) : fw (z_gN (sfF v m) 1) = fwB (tb v 0) (tb v 2) (tb v 4) (tb v 6) (tb v 7) (tb v 10) (tb v 11) := fw_of (fb_b rfl) (fb_b rfl) (fb_b rfl) (fb_b rfl) (fb_b rfl) (fb_b rfl) (fb_b rfl)
theorem and_3285 (v : Int64) : (v.toInt32 &&& (3285 : Int32)) = fwB (tb v 0) (tb v 2) (tb v 4) (tb v 6) (tb v 7) (tb v 10) (tb v 11) := by
  have t : ∀ i, i < 32 → tI 3285 i = decide (i = 0 ∨ i = 2 ∨ i = 4 ∨ i = 6 ∨ i = 7 ∨ i = 10 ∨ i = 11) := by decide +kernel
  refine tI_ext (fun i hi => ?_)
  rw [tI_and, tI_l2i, tI_fwB, t i hi, decide_eq_true hi]
  by_cases h0 : i = 0
  · subst h0; simp
  by_cases h2 : i = 2
  · subst h2; simp
  by_cases h4 : i = 4
  · subst h4; simp
  by_cases h6 : i = 6
  · subst h6; simp
  by_cases h7 : i = 7
  · subst h7; simp
  by_cases h10 : i = 10
  · subst h10; simp
  by_cases h11 : i = 11
  · subst h11; simp
  simp [h0, h2, h4, h6, h7, h10, h11]
theorem sf_fr (v : Int64) (m : z_Sg) : fr [] [] [] [1] m (sfF v m) := fr_sN (fr_sN (fr_sN (fr_sN (fr_sN (fr_sN (fr_sN fr_0 (by decide)) (by decide)) (by decide)) (by decide)) (by decide)) (by decide)) (by decide)
theorem g_pushn {k0 k m : z_Sg} {n : Nat} (hc : n = 104 ∨ n = 106) (h : TQ (nI n) k0 k m) : z_r k0 ((k_De_decode_43 (-1) (nI (foT n)) k).bind S1) (e_f_Mo_pushNumber (nI n) m) FQQ := by
  obtain ⟨x6, x5⟩ := TQ_x h
  have ho := TQ_o h
  have hz := z4_in (z_gI m 10) (z_gI m 16)
  have hS8 := szS_8 (z_gI m 10) (z_gI m 16)
  have go : ∀ s, 1 ≤ s → s ≤ 8 → (¬ nI (foT n) = 0 ∧ (nI (foT n) &&& (4 : Int32)) = 0 ∧ (nI (foT n) &&& (2 : Int32)) = 0 ∧ ¬ n / 8 = 57 ∧ n < 512) → f_De_bytesOfNumber (nI (foT n)) (z_sI k 12 3) = some (nI s) → z_r k0 ((k_De_decode_43 (-1) (nI (foT n)) k).bind S1) (e_k_Mo_pushNumber_25 (nI s) m) FQQ := by
    rintro s s1 s8 ⟨t1, t2, t3, t4, t5⟩ hb
    unfold e_k_Mo_pushNumber_25
    refine dec_xn2 h t1 t3 (tis (Or.inr t2) (by rw [ho]; exact o_bs t5 t4)) s1 s8 hb (fun k' b hp h3 h9 hfr h10 => ?_)
    have ho' : z_gI k' 11 = nI n := hp.2.2.2.1
    have hF : f_Fl_execute k' = k_Fl_execute_312 k' := by
      rcases hc with rfl | rfl <;> (unfold f_Fl_execute; rw [ho']; rfl)
    have hs10 : szS (z_gI b.2 10) (z_gI b.2 16) = szS (z_gI m 10) (z_gI m 16) := by rw [fr_I hfr 10 (by decide), fr_I hfr 16 (by decide)]
    unfold k_Fl_execute_312 at hF
    rw [K_szS hp.1.1, po_bs2, h9] at hF
    refine ex_fl hF (n2_p (n2_push _ _ _)) ?_
    rw [M_stackSize, po_bs2]
    have e415 : ∀ x : Option (Sum z_Dd z_Sg), z_eb x (fun r6 => some (.inr r6)) = x := fun x => by
      cases x with
      | none => rfl
      | some r => cases r <;> rfl
    rw [e415]
    exact push_fin hp.2.2.1 hp.1 hp.2.1 (by rw [hs10]; omega) (em_r _ _)
  unfold e_f_Mo_pushNumber
  rcases hc with rfl | rfl
  · rw [if_neg (by decide), M_stackSize, po_bs2]
    have hb : f_De_bytesOfNumber (nI (foT 104)) (z_sI k 12 3) = some (nI (z4 (z_gI m 10) (z_gI m 16))) := by
      refine (bn_z (t := nI (foT 104)) (k := z_sI k 12 3) (by decide) (by rw [show z_gI (z_sI k 12 3) 11 = nI 104 from ho]; decide) (by rw [show z_gI (z_sI k 12 3) 11 = nI 104 from ho]; decide)).trans ?_
      show some (nI (z4 (z_gI k 6) (z_gI k 5))) = _
      rw [x6, x5]
    have e : (if nI (szS (z_gI m 10) (z_gI m 16)) = (2 : Int32) then (e_k_Mo_pushNumber_25 (2 : Int32) m) else (e_k_Mo_pushNumber_25 (4 : Int32) m)) = e_k_Mo_pushNumber_25 (nI (z4 (z_gI m 10) (z_gI m 16))) m := by
      unfold szS z4
      rcases szV_in (z_gI m 10) (z_gI m 16) with c | c | c <;> rw [c] <;> rfl
    rw [e]
    exact go _ (by omega) (by omega) (by decide) hb
  · rw [if_pos (show nI 106 = (106 : Int32) from rfl)]
    exact go 1 (by decide) (by decide) (by decide) (bn_1 (by decide))
theorem g_pushf {k0 k m : z_Sg} (h : TQ (nI 156) k0 k m) (hg : z_gL m 7 = z_gL m 0 + (z_gI m 6).toInt64) : z_r k0 ((k_De_decode_43 (-1) 1 k).bind S1) ((f_Mo_flags m).bind (fun r31 => (f_Mo_stackSize m).bind (fun r32 => e_f_Mo_push (r31 ||| (2 : Int64)) r32 m))) FQQ := by
  refine run_a (by decide) (by decide) h hg (fun k' hp ho => ?_)
  have hS8 := szS_8 (z_gI m 10) (z_gI m 16)
  have hF : f_Fl_execute k' = (f_De_sizeOnStack k').bind (fun r26 => (f_Fl_push (((z_gI k' 0) ||| (2 : Int32)).toInt64) r26 k').bind (fun r27 => some (r27.1, r27.2))) := by
    unfold f_Fl_execute; rw [ho]; rfl
  rw [K_szS hp.1.1, po_bs2] at hF
  refine ex_fl hF (n2_p (n2_push _ _ _)) ?_
  rw [M_flags, po_bs2, M_stackSize, po_bs2, ← i2l_or2, hp.1.2.1]
  exact push_fin hp.2.2.1 hp.1 hp.2.1 (by omega) (em_r _ _)
theorem g_popf {k0 k m : z_Sg} (h : TQ (nI 157) k0 k m) (hg : z_gL m 7 = z_gL m 0 + (z_gI m 6).toInt64) : z_r k0 ((k_De_decode_43 (-1) 1 k).bind S1) ((f_Mo_stackSize m).bind (fun r28 => (z_eb (e_f_Mo_pop r28 m) (fun r29 => ((f_Mo_setFlags r29.1 r29.2).bind (fun r30 => ((k_Mo_others_261 r30).bind (fun o => some (.inr o))))))))) FQQ := by
  refine run_a (by decide) (by decide) h hg (fun k' hp ho => ?_)
  have hS8 := szS_8 (z_gI m 10) (z_gI m 16)
  have hF : f_Fl_execute k' = (f_Fl_popFlags k').bind (fun r29 => some (r29.1, r29.2)) := by
    unfold f_Fl_execute; rw [ho]; rfl
  refine ex_fl hF (n2_p (n2_popF _)) ?_
  unfold f_Fl_popFlags
  have b4 : ¬ z_bad (4 : Int32) 16 := by decide
  rw [K_szS hp.1.1, po_bs2, M_stackSize, po_bs2, Option.bind_assoc, Option.bind_assoc]
  refine pop_r hp.2.2.1 (PR_S hp) hp.1.1 hp.2.1 (by omega) (fun o f c g1 g2 => ?_) (fun k1 m1 v f1 f2 hE1 hk1 v1 v2 => ?_)
  · unfold k_Fl_popFlags_52
    rw [if_neg g1, po_bs2, po_bs2]
    exact S3_no _ f c g1 g2
  · rw [if_pos rfl, v2 k1 rfl rfl rfl, po_bs2, po_nm2, if_neg b4, if_neg b4, po_nm2]
    show z_r k0 (S3 (-1, z_sM (z_sI k1 0 (v.toInt32 &&& 3285)) 0 4 (z_gM k1 0 4 + (nI (szS (z_gI m 10) (z_gI m 16))).toInt64))) ((f_Mo_setFlags v (z_sM m1 0 4 (z_gM m1 0 4 + (nI (szS (z_gI m 10) (z_gI m 16))).toInt64))).bind _) FQQ
    rw [M_setFlags, po_bs2, EQn_r hE1 (show 4 < 16 by decide)]
    have hE2 := EQn_reg hE1 4 (z_gM m1 0 4 + (nI (szS (z_gI m 10) (z_gI m 16))).toInt64)
    have fk2 : fr [] [0] [] [] (z_sM k1 0 4 (z_gM m1 0 4 + (nI (szS (z_gI m 10) (z_gI m 16))).toInt64)) (z_sM (z_sI k1 0 (v.toInt32 &&& 3285)) 0 4 (z_gM m1 0 4 + (nI (szS (z_gI m 10) (z_gI m 16))).toInt64)) := by
      refine ⟨fun _ _ => rfl, fun j hj => ?_, fun _ _ => rfl, fun _ _ => rfl⟩
      show (if j = 0 then _ else z_gI k1 j) = z_gI k1 j
      rw [if_neg (by simpa using hj)]
    refine fin ⟨EQn_k hE2 fk2 (sf_fr v _) (by decide) (by decide) (by decide) (by decide) (by decide) (by decide) (by decide), ?_, ?_, ?_⟩
    · rw [fw_sf, ← and_3285]; rfl
    · show z_gI k1 2 = z_gI m1 2
      rw [fr_I f1 2 (by decide), fr_I f2 2 (by decide)]; exact hp.1.2.2.1
    · show z_gL k1 10 = z_gL m1 7
      rw [fr_L f1 10 (by decide), fr_L f2 7 (by decide)]; exact hp.1.2.2.2
theorem ret_r {k0 k m : z_Sg} (hk : KX k0 k) (hE : EQ k m) (h5 : z_gI m 5 = 0) {t0 : Int64} (ht : t0 = (z_gL k 9) &&& (65535 : Int64)) : z_r k0 (((f_Fl_comeBack k).bind (fun r31 => some (r31.1, r31.2))).bind S3) (e_k_Mo_returns_33 t0 m) FQQ := by
  unfold f_Fl_comeBack e_k_Mo_returns_33
  have b4 : ¬ z_bad (4 : Int32) 16 := by decide
  rw [Option.bind_assoc, Option.bind_assoc]
  refine pop_r (n := 8) hk (EQ_Sim hE h5) hE.1 h5 (by decide) (fun o f c g1 g2 => ?_) (fun k1 m1 v f1 f2 hE1 hk1 v1 v2 => ?_)
  · unfold k_Fl_comeBack_24 k_Fl_comeBack_56
    rw [if_neg g1, if_neg g1, po_bs2, po_bs2]
    exact S3_no _ f c g1 g2
  · rw [if_pos rfl, v2 k1 rfl rfl rfl, po_bs2, if_neg b4, if_neg b4, po_nm2, Option.bind_assoc]
    have e9 : z_gL k1 9 = z_gL k 9 := fr_L f1 9 (by decide)
    have e5 : z_gL k1 5 = z_gL m1 5 := EQn_L hE1 (by decide)
    refine jump_r (k := k1) (m := z_sM (z_sM m1 0 4 (z_gM m1 0 4 + (nI 8).toInt64)) 0 4 ((z_gM m1 0 4 + (nI 8).toInt64) + t0)) hk1 e5 hE1.2.2.1 v (fun o f c g1 g2 => ?_) ?_
    · unfold k_Fl_comeBack_24 k_Fl_comeBack_56
      rw [if_neg g1, po_bs2, po_bs2]
      exact S3_no _ f c g1 g2
    · unfold k_Fl_comeBack_24 k_Fl_comeBack_56
      rw [if_pos rfl, if_neg b4, if_neg b4, po_nm2]
      show z_r k0 (S3 (-1, z_sM (z_sL k1 10 v) 0 4 (z_gM k1 0 4 + ((8 : Int64) + ((z_gL k1 9) &&& (65535 : Int64)))))) (some (.inr (z_sL (z_sM (z_sM m1 0 4 (z_gM m1 0 4 + (nI 8).toInt64)) 0 4 ((z_gM m1 0 4 + (nI 8).toInt64) + t0)) 7 v))) FQQ
      rw [e9, ← ht, EQn_r hE1 (show 4 < 16 by decide), ← Int64.add_assoc]
      have hE2 := EQn_reg hE1 4 ((z_gM m1 0 4 + (nI 8).toInt64) + t0)
      refine fin ⟨EQn_fr hE2 (Lk := [10]) (Ik := []) (Mk := [0]) (Nk := []) (Lm := [7]) (Im := []) (Mm := [0]) (Nm := []) ?_ ?_ (by decide) (by decide) (by decide) (by decide) (by decide) (by decide) (by decide) (fun i hi => ?_), ?_, ?_, rfl⟩
      · refine ⟨fun j hj => ?_, fun _ _ => rfl, fun j hj => ?_, fun _ _ => rfl⟩
        · show (if j = 10 then v else z_gL k1 j) = z_gL k1 j
          rw [if_neg (by simpa using hj)]
        · rfl
      · refine ⟨fun j hj => ?_, fun _ _ => rfl, fun j hj => ?_, fun _ _ => rfl⟩
        · show (if j = 7 then v else z_gL m1 j) = z_gL m1 j
          rw [if_neg (by simpa using hj)]
        · have : j ≠ 0 := by simpa using hj
          show (if j = 0 then _ else (if j = 0 then _ else z_gM m1 j)) = (if j = 0 then _ else z_gM m1 j)
          rw [if_neg this, if_neg this, if_neg this]
      · show (if i = 4 then _ else z_gM k1 0 i) = (if i = 4 then _ else (if i = 4 then _ else z_gM m1 0 i))
        by_cases c : i = 4
        · rw [if_pos c, if_pos c]; rfl
        · rw [if_neg c, if_neg c, if_neg c]; exact EQn_r hE1 hi
      · show z_gI k1 0 = fw (z_gN m1 1)
        rw [fr_I f1 0 (by decide), fr_N f2 1 (by decide)]; exact hE.2.1
      · show z_gI k1 2 = z_gI m1 2
        rw [fr_I f1 2 (by decide), fr_I f2 2 (by decide)]; exact hE.2.2.1
theorem g_ret {k0 k m : z_Sg} {n : Nat} (hc : n = 194 ∨ n = 195) (h : TQ (nI n) k0 k m) (hg : z_gL m 7 = z_gL m 0 + (z_gI m 6).toInt64) : z_r k0 ((k_De_decode_43 (-1) (nI (foT n)) k).bind S1) (e_f_Mo_returns (nI n) m) FQQ := by
  have gen : ∀ n, n = 194 ∨ n = 195 → n < 512 ∧ ¬ n / 8 = 57 ∧ ¬ nI (foT n) = 0 ∧ ¬ (nI (foT n) &&& (4 : Int32)) = 0 ∧ (nI (foT n) &&& (2 : Int32)) = 0 := by
    rintro n (rfl | rfl) <;> decide
  obtain ⟨n1, n2, t1, t2, t3⟩ := gen n hc
  have ho := TQ_o h
  have ex : ∀ k', z_gI k' 11 = nI n → f_Fl_execute k' = (f_Fl_comeBack k').bind (fun r31 => some (r31.1, r31.2)) := by
    intro k' e
    rcases hc with rfl | rfl <;> (unfold f_Fl_execute; rw [e]; rfl)
  unfold e_f_Mo_returns
  refine r_us n1 n2 t1 t2 h (fun hs => ?_)
  unfold e_k_Mo_returns_13
  rcases hc with rfl | rfl
  · rw [if_pos (show nI 194 = (194 : Int32) from rfl)]
    refine dec_xn2 (n := 2) h t1 t3 hs (by decide) (by decide) (bn_2 (by decide)) (fun k' b hp h3 h9 hfr h10 => ?_)
    refine ex_fl (ex k' hp.2.2.2.1) (n2_p (n2_come _)) ?_
    rw [show (2 : Int32) = nI 2 from rfl, M_lowest _ (by decide), po_bs2]
    exact ret_r hp.2.2.1 hp.1 hp.2.1 (by rw [h9]; rfl)
  · rw [if_neg (by decide)]
    refine dec_x0 h hg t1 t3 hs (bn_0 (by decide) (by rw [show z_gI (z_sI k 12 3) 11 = nI 195 from ho]; decide) (by rw [show z_gI (z_sI k 12 3) 11 = nI 195 from ho]; decide)) (fun k' hp _ h9 => ?_)
    refine ex_fl (ex k' hp.2.2.2.1) (n2_p (n2_come _)) ?_
    exact ret_r hp.2.2.1 hp.1 hp.2.1 (by rw [h9]; rfl)
theorem g_leave {k0 k m : z_Sg} (h : TQ (nI 201) k0 k m) (hg : z_gL m 7 = z_gL m 0 + (z_gI m 6).toInt64) : z_r k0 ((k_De_decode_43 (-1) (nI (foT 201)) k).bind S1) (e_f_Mo_leaveFrame m) FQQ := by
  have ho := TQ_o h
  unfold e_f_Mo_leaveFrame
  refine r_us (n := 201) (by decide) (by decide) (by decide) (by decide) h (fun hs => ?_)
  refine dec_x0 h hg (by decide) (by decide) hs (bn_0 (by decide) (by rw [show z_gI (z_sI k 12 3) 11 = nI 201 from ho]; decide) (by rw [show z_gI (z_sI k 12 3) 11 = nI 201 from ho]; decide)) (fun k' hp _ h9 => ?_)
  have hF : f_Fl_execute k' = (f_Fl_leave k').bind (fun r34 => some (r34.1, r34.2)) := by
    unfold f_Fl_execute; rw [hp.2.2.2.1]; rfl
  refine ex_fl hF (n2_p (n2_leave _)) ?_
  unfold f_Fl_leave e_k_Mo_leaveFrame_13 e_f_Mo_pop
  have b4 : ¬ z_bad (4 : Int32) 16 := by decide
  have b5 : ¬ z_bad (5 : Int32) 16 := by decide
  rw [if_neg b5, if_neg b5, if_neg b4, po_nm2, po_nm2, if_neg b4, Option.bind_assoc, Option.bind_assoc, eb_eb]
  have hE := hp.1.1
  have r5 : z_gM k' 0 5 = z_gM m 0 5 := EQn_r hE (by decide)
  unfold e_f_Mo_load
  rw [eb_eb]
  have hmm : memR (z_gM k' 1) (z_gN m 0) := memW_0 hE hp.2.1
  have hl1 : z_gL k' 1 = z_gL m 1 := EQn_L hE (by decide)
  have hl5 : z_gL k' 5 = z_gL m 5 := EQn_L hE (by decide)
  have hSL : SimL k' (z_sM m 0 4 (z_gM m 0 5)) := ⟨hl1, hp.1.2.2.1, hmm, hl5, hE.2.2.1⟩
  show z_r k0 ((f_Sp_find_12 (z_gM k' 0 5) (nI 8) 0 1 k').bind _) (z_eb (e_f_Mo_lookUp (z_gM m 0 5) (nI 8) 0 1 (z_sM m 0 4 (z_gM m 0 5))) _) FQQ
  rw [r5]
  refine r_b (find_rel_12L (KF_n hp.2.2.1) hSL (by decide)) (fun o f c g1 g2 => ?_) (fun k1 m1 hq => ?_)
  · unfold k_Fl_leave_58
    rw [if_neg g1, po_bs2, po_bs2]
    exact S3_no _ f c g1 g2
  · obtain ⟨q1, q2, q3, q4⟩ := hq
    have hv : f_Sp_value_12 k1 = some (asm (fun i => mB (z_gN m1 0) (z_gM m1 3 i)) 8) := by
      rw [K_value_12 (n := 8) (by decide) q3]
      congr 1
      refine asm_congr (fun i hi => ?_)
      have e1 : z_gM k1 1 = z_gM k' 1 := fr_M q1 1 (by decide)
      have e2 : z_gN m1 0 = z_gN m 0 := fr_N q2 0 (by decide)
      rw [e1, e2, (q4 i hi).1]
      exact memW_0 hE hp.2.1 _
    rw [if_pos rfl, hv, po_bs2, if_neg b5, po_nm2, if_neg b4, po_nm2]
    show z_r k0 (S3 (-1, z_sM (z_sM k1 0 5 (asm (fun i => mB (z_gN m1 0) (z_gM m1 3 i)) 8)) 0 4 (z_gM k' 0 5 + 8))) _ FQQ
    rw [r5]
    have hM8 : f_Mo_held 8 m1 = some (asm (fun i => mB (z_gN m1 0) (z_gM m1 3 i)) 8) := M_held (n := 8) (by decide)
    rw [hM8, po_bs2]
    show z_r k0 _ (some (.inr (z_sM (z_sM m1 0 4 (z_gM m1 0 4 + (8 : Int32).toInt64)) 0 5 (asm (fun i => mB (z_gN m1 0) (z_gM m1 3 i)) 8)))) FQQ
    have m4 : z_gM m1 0 4 = z_gM m 0 5 := by
      rw [fr_M q2 0 (by decide)]; rfl
    have fk : fr [] [17] [0, 3] [] k' (z_sM (z_sM k1 0 5 (asm (fun i => mB (z_gN m1 0) (z_gM m1 3 i)) 8)) 0 4 (z_gM m 0 5 + 8)) := fr_sM (fr_sM (fr_w q1 (by decide) (by decide) (by decide) (by decide)) (by decide)) (by decide)
    have fm : fr [] [1] [0, 3] [] m (z_sM (z_sM m1 0 4 (z_gM m1 0 4 + (8 : Int32).toInt64)) 0 5 (asm (fun i => mB (z_gN m1 0) (z_gM m1 3 i)) 8)) := fr_sM (fr_sM (fr_t (fr_sM fr_0 (by decide)) (fr_w q2 (by decide) (by decide) (by decide) (by decide))) (by decide)) (by decide)
    refine fin (EQ_of hp.1 (EQn_fr hE fk fm (by decide) (by decide) (by decide) (by decide) (by decide) (by decide) (by decide) (fun i hi => ?_)) fk fm (by decide) (by decide) (by decide))
    show (if i = 4 then _ else (if i = 5 then _ else z_gM k1 0 i)) = (if i = 5 then _ else (if i = 4 then _ else z_gM m1 0 i))
    by_cases c4 : i = 4
    · rw [if_pos c4, if_neg (by omega), if_pos c4, m4]; rfl
    · by_cases c5 : i = 5
      · rw [if_neg c4, if_pos c5, if_pos c5]
      · rw [if_neg c4, if_neg c5, if_neg c5, if_neg c4, fr_M q1 0 (by decide), fr_M q2 0 (by decide), EQn_r hE hi]
        show _ = (if i = 4 then _ else z_gM m 0 i)
        rw [if_neg c4]
