theorem r_eqM {β : Type} {k0 : z_Sg} {x : Option (Int32 × z_Sg)} {y y' : Option (Sum z_Dd β)} {Q : z_Sg → β → Prop} (h : y = y') (h2 : z_r k0 x y' Q) : z_r k0 x y Q := by rw [h]; exact h2
theorem r_eqK {β : Type} {k0 : z_Sg} {x x' : Option (Int32 × z_Sg)} {y : Option (Sum z_Dd β)} {Q : z_Sg → β → Prop} (h : x = x') (h2 : z_r k0 x' y Q) : z_r k0 x y Q := by rw [h]; exact h2
theorem EQ_reg {k m : z_Sg} (h : EQ k m) (i : Nat) (v : Int64) : EQ (z_sM k 0 i v) (z_sM m 0 i v) := ⟨EQn_reg h.1 i v, h.2.1, h.2.2.1, h.2.2.2⟩
theorem z_fl (f : Nat → Int32) : ((fw f &&& (64 : Int32)) = 0) ↔ fb f 3 = false := by
  have : ∀ c p h z s d o : Bool, ((fwB c p h z s d o &&& (64 : Int32)) = 0) ↔ z = false := by decide +kernel
  rw [fw_B]; exact this _ _ _ _ _ _ _
theorem g_loop {k0 k m : z_Sg} {n : Nat} (h1 : 224 ≤ n) (h2 : n < 228) (h : TQ (nI n) k0 k m) : z_r k0 ((k_De_decode_43 (-1) (nI (foT n)) k).bind S1) (e_f_Mo_loop (nI n) m) FQQ := by
  have fx : ∀ n, n < 228 → 224 ≤ n → ¬ nI (foT n) = 0 ∧ ¬ (nI (foT n) &&& (4 : Int32)) = 0 ∧ (nI (foT n) &&& (2 : Int32)) = 0 ∧ ¬ (nI (foT n) &&& (8 : Int32)) = 0 := by decide +kernel
  obtain ⟨t1, t2, t3, t4⟩ := fx n h2 h1
  have fn : ∀ n, n < 228 → 224 ≤ n → ((nI n = (227 : Int32)) ↔ n = 227) ∧ ((nI n = (226 : Int32)) ↔ n = 226) ∧ ((nI n = (225 : Int32)) ↔ n = 225) := by decide +kernel
  obtain ⟨n7, n6, n5⟩ := fn n h2 h1
  have b1 : ¬ z_bad (1 : Int32) 16 := by decide
  unfold e_f_Mo_loop
  refine r_us (by omega) (by omega) t1 t2 h (fun hs => ?_)
  unfold e_k_Mo_loop_13
  refine dec_xn2 (n := 1) h t1 t3 hs (by decide) (by decide) (bn_1 t4) (fun k' b hp h3 h9 hfr h10 => ?_)
  have ho : z_gI k' 11 = nI n := hp.2.2.2.1
  have hE := hp.1
  have r1 : z_gM k' 0 1 = z_gM b.2 0 1 := EQn_r hE.1 (by decide)
  by_cases c7 : n = 227
  · rw [if_pos (n7.mpr c7)]
    unfold e_k_Mo_loop_36
    rw [if_pos (n7.mpr c7), if_neg b1]
    have hF : f_Fl_execute k' = if (z_gM k' 0 1) = (0 : Int64) then ((f_Fl_jump ((z_gL k' 10) + (z_gL k' 9)) k').bind (fun r42 => k_Fl_execute_440 r42.1 r42.2)) else (k_Fl_execute_440 (-1 : Int32) k') := by
      subst c7
      unfold f_Fl_execute; rw [ho]; rfl
    show z_r k0 _ (if z_gM b.2 0 1 = 0 then _ else _) FQQ
    rw [r1] at hF
    unfold e_k_Mo_loop_106
    by_cases c0 : z_gM b.2 0 1 = 0
    · rw [if_pos c0] at hF ⊢
      refine ex_fl hF (n2_b (n2_jump _ _) (fun o ho => n2_s ho)) ?_
      rw [if_neg (by decide), h9, h10, Option.bind_assoc]
      exact jump_r hp.2.2.1 (PR_5 hp) (PR_c hp) _ (fun o f c g1 g2 => S3_no _ f c g1 g2) (fin (EQ_jump hE _))
    · rw [if_neg c0] at hF ⊢
      refine ex_fl hF (n2_s (by decide)) ?_
      rw [if_pos rfl]
      exact fin hE
  · rw [if_neg (fun x => c7 (n7.mp x)), if_neg b1, if_neg b1, po_nm2]
    have hF : f_Fl_execute k' = (f_Fl_countDown k').bind (fun r36 => some (r36.1, r36.2)) := by
      have : n = 224 ∨ n = 225 ∨ n = 226 := by omega
      rcases this with rfl | rfl | rfl <;> (unfold f_Fl_execute; rw [ho]; rfl)
    refine ex_fl hF (n2_p (n2_cd _)) ?_
    have zb : z_gN b.2 1 3 = b2i (fb (z_gN b.2 1) 3) := FB_b hp.2.2.2.2.1 3
    have key : ∃ tk : Bool, f_Fl_countDown k' = k_Fl_countDown_77 (z_gM b.2 0 1 - 1) (b2i tk) k' ∧ e_k_Mo_loop_36 (nI n) b.1 (z_sM b.2 0 1 (z_gM b.2 0 1 - 1)) = e_k_Mo_loop_106 b.1 (b2i tk) (z_sM b.2 0 1 (z_gM b.2 0 1 - 1)) := by
      have hk30 : f_Fl_countDown k' = k_Fl_countDown_30 (z_gM b.2 0 1 - 1) (b2i (fb (z_gN b.2 1) 3)) k' := by
        unfold f_Fl_countDown
        rw [if_neg b1, po_nm2, hE.2.1]
        show (if fw (z_gN b.2 1) &&& 64 = 0 then k_Fl_countDown_30 (z_gM k' 0 1 - 1) 0 k' else k_Fl_countDown_30 (z_gM k' 0 1 - 1) 1 k') = _
        rw [r1]
        cases hz : fb (z_gN b.2 1) 3 with
        | false => rw [if_pos ((z_fl _).mpr hz)]; rfl
        | true => rw [if_neg (fun x => by rw [(z_fl _).mp x] at hz; cases hz)]; rfl
      have hm36 : e_k_Mo_loop_36 (nI n) b.1 (z_sM b.2 0 1 (z_gM b.2 0 1 - 1)) = if (z_gM b.2 0 1 - 1) = (0 : Int64) then (e_k_Mo_loop_105 b.1 (z_sM b.2 0 1 (z_gM b.2 0 1 - 1))) else (if nI n = (226 : Int32) then (e_k_Mo_loop_101 b.1 (z_sM b.2 0 1 (z_gM b.2 0 1 - 1))) else (if nI n = (225 : Int32) then (e_k_Mo_loop_98 b.1 (b2i (fb (z_gN b.2 1) 3)) (1 : Int32) (z_sM b.2 0 1 (z_gM b.2 0 1 - 1))) else (e_k_Mo_loop_98 b.1 (b2i (fb (z_gN b.2 1) 3)) (0 : Int32) (z_sM b.2 0 1 (z_gM b.2 0 1 - 1))))) := by
        unfold e_k_Mo_loop_36
        rw [if_neg (fun x => c7 (n7.mp x)), if_neg b1, if_neg (show ¬ z_bad (3 : Int32) 7 by decide)]
        rw [← zb]
        rfl
      rw [hk30, hm36]
      unfold k_Fl_countDown_30
      rw [ho]
      by_cases c0 : z_gM b.2 0 1 - 1 = 0
      · rw [if_pos c0, if_pos c0]
        exact ⟨false, rfl, rfl⟩
      · rw [if_neg c0, if_neg c0]
        by_cases c6 : nI n = 226
        · rw [if_pos c6, if_pos c6]
          exact ⟨true, rfl, rfl⟩
        · rw [if_neg c6, if_neg c6]
          by_cases c5 : nI n = 225
          · rw [if_pos c5, if_pos c5]
            cases fb (z_gN b.2 1) 3
            · exact ⟨false, rfl, rfl⟩
            · exact ⟨true, rfl, rfl⟩
          · rw [if_neg c5, if_neg c5]
            cases fb (z_gN b.2 1) 3
            · exact ⟨true, rfl, rfl⟩
            · exact ⟨false, rfl, rfl⟩
    obtain ⟨tk, e1, e2⟩ := key
    show z_r k0 _ (e_k_Mo_loop_36 (nI n) b.1 (z_sM b.2 0 1 (z_gM b.2 0 1 - 1))) FQQ
    rw [e1, e2]
    unfold k_Fl_countDown_77 k_Fl_countDown_107 k_Fl_countDown_125 e_k_Mo_loop_106
    cases tk with
    | false =>
      rw [if_pos (show b2i false = 0 from rfl), if_pos (show b2i false = 0 from rfl), if_pos rfl, if_neg b1, po_nm2]
      exact fin (EQ_reg hE 1 _)
    | true =>
      rw [if_neg (show ¬ b2i true = 0 by decide), if_neg (show ¬ b2i true = 0 by decide), Option.bind_assoc, Option.bind_assoc, h9, h10]
      show z_r k0 _ (z_eb (e_f_Mo_jump (z_gL b.2 7 + b.1) (z_sM b.2 0 1 (z_gM b.2 0 1 - 1))) _) FQQ
      have j5 := PR_5 hp
      have jc := PR_c hp
      refine jump_r (k := k') (m := z_sM b.2 0 1 (z_gM b.2 0 1 - 1)) hp.2.2.1 j5 jc _ (fun o f c g1 g2 => ?_) ?_
      · rw [if_neg g1, po_bs2, po_bs2]
        exact S3_no _ f c g1 g2
      · rw [if_pos rfl, if_neg b1, po_nm2]
        exact fin (EQ_reg (EQ_jump hE _) 1 _)
theorem call_r {k0 k m : z_Sg} (hk : KX k0 k) (hE : EQ k m) (h5 : z_gI m 5 = 0) (p : Int64) {K : Int32 × z_Sg → Option (Int32 × z_Sg)} (hK : ∀ o, K o = some o) {L : z_Sg → Option (Sum z_Dd z_Sg)} (hL : L (z_sL m 7 p) = z_eb (e_f_Mo_push (z_gL m 7) (nI 8) (z_sL m 7 p)) (fun r => some (.inr r))) : z_r k0 (((f_Fl_call p k).bind K).bind S3) (z_eb (e_f_Mo_jump p m) L) FQQ := by
  obtain ⟨b, b1, b2⟩ := wrg p k m
  unfold f_Fl_call e_f_Mo_jump
  rw [b1, b2, po_bs2, po_bs2]
  cases b with
  | true =>
    rw [if_neg (show ¬ b2i true = 0 by decide), if_neg (show ¬ b2i true = 0 by decide), r_refuse 13 (by decide), po_bs2, hK, po_bs2]
    show z_r k0 (some (13, k)) (some (.inl (13, z_gL m 5, z_gI m 0))) FQQ
    exact r_x (by decide) 13 hk (EQn_L hE.1 (by decide)) hE.1.2.2.1
  | false =>
    rw [if_pos (show b2i false = 0 from rfl), if_pos (show b2i false = 0 from rfl), po_nm2]
    show z_r k0 _ (L (z_sL m 7 p)) FQQ
    rw [hL, Option.bind_assoc, Option.bind_assoc]
    have hE2 : EQn k (z_sL m 7 p) := EQn_k hE.1 (Lk := []) (Ik := []) (Mk := []) (Nk := []) (Lm := [7]) (Im := []) (Mm := []) (Nm := []) fr_0 (fr_sL fr_0 (by decide)) (by decide) (by decide) (by decide) (by decide) (by decide) (by decide) (by decide)
    rw [hE.2.2.2]
    have hSm := EQ_Sim hE h5
    refine push_r (k := k) (m := z_sL m 7 p) (n := 8) hk hSm hE2 h5 (by decide) (em_r _ _) (fun o f c g1 g2 => ?_) (fun k' m' hE' f1 f2 => ?_)
    · unfold k_Fl_call_37
      rw [if_neg g1, po_bs2, hK, po_bs2]
      exact S3_no _ f c g1 g2
    · unfold k_Fl_call_37
      rw [if_pos rfl, po_nm2, po_bs2, hK, po_bs2]
      refine fin ⟨EQn_k hE' (Lk := [10]) (Ik := []) (Mk := []) (Nk := []) (Lm := []) (Im := []) (Mm := []) (Nm := []) (fr_sL fr_0 (by decide)) fr_0 (by decide) (by decide) (by decide) (by decide) (by decide) (by decide) (by decide), ?_, ?_, ?_⟩
      · show z_gI k' 0 = _
        rw [fr_I f1 0 (by decide), fr_N f2 1 (by decide)]; exact hE.2.1
      · show z_gI k' 2 = _
        rw [fr_I f1 2 (by decide), fr_I f2 2 (by decide)]; exact hE.2.2.1
      · show p = _
        rw [fr_L f2 7 (by decide)]; rfl
theorem g_far {k0 k m : z_Sg} {n : Nat} (hc : n = 232 ∨ n = 233 ∨ n = 235) (h : TQ (nI n) k0 k m) : z_r k0 ((k_De_decode_43 (-1) (nI (foT n)) k).bind S1) (e_f_Mo_far (nI n) m) FQQ := by
  have gen : ∀ n, n = 232 ∨ n = 233 ∨ n = 235 → n < 512 ∧ ¬ n / 8 = 57 ∧ ¬ nI (foT n) = 0 ∧ ¬ (nI (foT n) &&& (4 : Int32)) = 0 ∧ (nI (foT n) &&& (2 : Int32)) = 0 := by
    rintro n (rfl | rfl | rfl) <;> decide
  obtain ⟨n1, n2, t1, t2, t3⟩ := gen n hc
  have hb : f_De_bytesOfNumber (nI (foT n)) (z_sI k 12 3) = some (nI (if n = 235 then 1 else 4)) := by
    rcases hc with rfl | rfl | rfl
    · exact bn_4 (by decide)
    · exact bn_4 (by decide)
    · exact bn_1 (by decide)
  unfold e_f_Mo_far
  refine r_us n1 n2 t1 t2 h (fun hs => ?_)
  unfold e_k_Mo_far_13
  have e0 : (if nI n = (235 : Int32) then (e_k_Mo_far_26 (nI n) (1 : Int32) m) else (e_k_Mo_far_26 (nI n) (4 : Int32) m)) = e_k_Mo_far_26 (nI n) (nI (if n = 235 then 1 else 4)) m := by
    rcases hc with rfl | rfl | rfl <;> rfl
  rw [e0]
  unfold e_k_Mo_far_26
  refine dec_xn2 h t1 t3 hs (by split <;> omega) (by split <;> omega) hb (fun k' b hp h3 h9 hfr h10 => ?_)
  have ho : z_gI k' 11 = nI n := hp.2.2.2.1
  rw [po_nm2]
  by_cases c : n = 232
  · subst c
    have hF : f_Fl_execute k' = (f_Fl_call ((z_gL k' 10) + (z_gL k' 9)) k').bind (fun r44 => some (r44.1, r44.2)) := by
      unfold f_Fl_execute; rw [ho]; rfl
    refine ex_fl hF (n2_p (n2_call _ _)) ?_
    rw [h9, h10]
    refine call_r hp.2.2.1 hp.1 hp.2.1 _ (fun o => rfl) ?_
    unfold e_k_Mo_far_52
    rw [if_pos (show nI 232 = (232 : Int32) from rfl)]
    rfl
  · have hF : f_Fl_execute k' = (f_Fl_jump ((z_gL k' 10) + (z_gL k' 9)) k').bind (fun r46 => some (r46.1, r46.2)) := by
      have : n = 233 ∨ n = 235 := by omega
      rcases this with rfl | rfl <;> (unfold f_Fl_execute; rw [ho]; rfl)
    refine ex_fl hF (n2_p (n2_jump _ _)) ?_
    rw [h9, h10, Option.bind_assoc]
    have e52 : ∀ q, e_k_Mo_far_52 (nI n) (z_gL b.2 7) q = some (.inr q) := by
      intro q
      have : n = 233 ∨ n = 235 := by omega
      rcases this with rfl | rfl <;> rfl
    refine jump_r hp.2.2.1 (PR_5 hp) (PR_c hp) _ (fun o f c g1 g2 => ?_) ?_
    · rw [po_bs2]; exact S3_no _ f c g1 g2
    · rw [e52]
      exact fin (EQ_jump hp.1 _)
theorem and_not (c p h z s d o : Bool) (v : Int64) : (fwB c p h z s d o &&& (v.toInt32 ^^^ (-1 : Int32))) = fwB (c && !tb v 0) (p && !tb v 2) (h && !tb v 4) (z && !tb v 6) (s && !tb v 7) (d && !tb v 10) (o && !tb v 11) := by
  refine tI_ext (fun i hi => ?_)
  rw [tI_and, tI_xor, tI_l2i, tI_m1 i hi, tI_fwB, tI_fwB, decide_eq_true hi]
  by_cases h0 : i = 0
  · subst h0; simp
  by_cases h2 : i = 2
  · subst h2; simp
  by_cases h4 : i = 4
  · subst h4; simp
  by_cases h6 : i = 6
  · subst h6; simp
  by_cases h7 : i = 7
  · subst h7; simp
  by_cases h10 : i = 10
  · subst h10; simp
  by_cases h11 : i = 11
  · subst h11; simp
  simp [h0, h2, h4, h6, h7, h10, h11]
theorem tb_fw (f : Nat → Int32) : tb (fw f).toInt64 0 = fb f 0 ∧ tb (fw f).toInt64 2 = fb f 1 ∧ tb (fw f).toInt64 4 = fb f 2 ∧ tb (fw f).toInt64 6 = fb f 3 ∧ tb (fw f).toInt64 7 = fb f 4 ∧ tb (fw f).toInt64 10 = fb f 5 ∧ tb (fw f).toInt64 11 = fb f 6 := by
  have : ∀ c p h z s d o : Bool, tb (fwB c p h z s d o).toInt64 0 = c ∧ tb (fwB c p h z s d o).toInt64 2 = p ∧ tb (fwB c p h z s d o).toInt64 4 = h ∧ tb (fwB c p h z s d o).toInt64 6 = z ∧ tb (fwB c p h z s d o).toInt64 7 = s ∧ tb (fwB c p h z s d o).toInt64 10 = d ∧ tb (fwB c p h z s d o).toInt64 11 = o := by decide +kernel
  rw [fw_B]; exact this _ _ _ _ _ _ _
theorem sys_fl (f : Nat → Int32) (v : Int64) : (fw f &&& (v.toInt32 ^^^ (-1 : Int32))) = fwB (tb ((fw f).toInt64 &&& (v ^^^ -1)) 0) (tb ((fw f).toInt64 &&& (v ^^^ -1)) 2) (tb ((fw f).toInt64 &&& (v ^^^ -1)) 4) (tb ((fw f).toInt64 &&& (v ^^^ -1)) 6) (tb ((fw f).toInt64 &&& (v ^^^ -1)) 7) (tb ((fw f).toInt64 &&& (v ^^^ -1)) 10) (tb ((fw f).toInt64 &&& (v ^^^ -1)) 11) := by
  obtain ⟨a0, a1, a2, a3, a4, a5, a6⟩ := tb_fw f
  have e : ∀ i b, i < 64 → tb (fw f).toInt64 i = b → tb ((fw f).toInt64 &&& (v ^^^ -1)) i = (b && !tb v i) := by
    intro i b hi h
    rw [tb_and, h, tb_xor, tb_m1, decide_eq_true hi, Bool.xor_true]
  rw [e 0 _ (by decide) a0, e 2 _ (by decide) a1, e 4 _ (by decide) a2, e 6 _ (by decide) a3, e 7 _ (by decide) a4, e 10 _ (by decide) a5, e 11 _ (by decide) a6, fw_B, and_not]
theorem g_sys {k0 k m : z_Sg} {n : Nat} (hc : n = 261 ∨ n = 263) (h : TQ (nI n) k0 k m) (hg : z_gL m 7 = z_gL m 0 + (z_gI m 6).toInt64) : z_r k0 ((k_De_decode_43 (-1) 1 k).bind S1) (e_f_Mo_system (if n = 261 then 1 else 0) m) FQQ := by
  have b1 : ¬ z_bad (1 : Int32) 16 := by decide
  have b11 : ¬ z_bad (11 : Int32) 16 := by decide
  have gen : ∀ n, n = 261 ∨ n = 263 → n < 512 ∧ (!(decide (n / 8 = 57)) && !(decide (n = 246)) && !(decide (n = 247)) = true) := by
    rintro n (rfl | rfl) <;> decide
  obtain ⟨n1, n2⟩ := gen n hc
  refine run_a n1 n2 h hg (fun k' hp ho => ?_)
  have hE := hp.1
  unfold e_f_Mo_system
  rcases hc with rfl | rfl
  · have hF : f_Fl_execute k' = (f_Fl_enterSystem k').bind (fun r60 => some (r60.1, r60.2)) := by
      unfold f_Fl_execute; rw [ho]; rfl
    refine ex_fl hF (n2_p (n2_enter _)) ?_
    unfold f_Fl_enterSystem
    refine r_eqM (y' := some (.inr (z_sI (sfF ((fw (z_gN m 1)).toInt64 &&& (z_gL m 3 ^^^ -1)) (z_sL (z_sM (z_sM m 0 1 (z_gL m 7)) 0 11 ((fw (z_gN m 1)).toInt64 ||| 2)) 7 (z_gL m 2))) 2 0))) ?_ ?_
    · rw [if_pos rfl, if_neg (show ¬ (1 : Int32) = 0 by decide), if_neg b1, po_nm2, M_flags, po_bs2, if_neg b11, po_nm2, po_nm2, M_flags, po_bs2, M_setFlags, po_bs2, po_nm2]
      rfl
    rw [if_neg b1, po_nm2, if_neg b11, po_nm2, po_nm2, po_nm2, po_nm2]
    show z_r k0 (S3 (-1, z_sI (z_sI (z_sL (z_sM (z_sM k' 0 1 (z_gL k' 10)) 0 11 ((z_gI k' 0 ||| 2).toInt64)) 10 (z_gL k' 2)) 0 (z_gI k' 0 &&& ((z_gL k' 3).toInt32 ^^^ -1))) 2 0)) (some (.inr (z_sI (sfF ((fw (z_gN m 1)).toInt64 &&& (z_gL m 3 ^^^ -1)) (z_sL (z_sM (z_sM m 0 1 (z_gL m 7)) 0 11 ((fw (z_gN m 1)).toInt64 ||| 2)) 7 (z_gL m 2))) 2 0))) FQQ
    have e3 : z_gL k' 3 = z_gL m 3 := EQn_L hE.1 (by decide)
    have e2 : z_gL k' 2 = z_gL m 2 := EQn_L hE.1 (by decide)
    rw [hE.2.1, i2l_or2, hE.2.2.2, e3, e2]
    refine fin ⟨EQn_k (EQn_reg (EQn_reg hE.1 1 (z_gL m 7)) 11 ((fw (z_gN m 1)).toInt64 ||| 2)) (Lk := [10]) (Ik := [0, 2]) (Mk := []) (Nk := []) (Lm := [7]) (Im := [2]) (Mm := []) (Nm := [1]) ?_ ?_ (by decide) (by decide) (by decide) (by decide) (by decide) (by decide) (by decide), ?_, rfl, rfl⟩
    · exact fr_sI (fr_sI (fr_sL fr_0 (by decide)) (by decide)) (by decide)
    · exact fr_sI (fr_t (fr_sL fr_0 (by decide)) (fr_w (sf_fr _ _) (by decide) (by decide) (by decide) (by decide))) (by decide)
    · exact (sys_fl (z_gN m 1) (z_gL m 3)).trans (fw_sf ((fw (z_gN m 1)).toInt64 &&& (z_gL m 3 ^^^ -1)) (z_sL (z_sM (z_sM m 0 1 (z_gL m 7)) 0 11 ((fw (z_gN m 1)).toInt64 ||| 2)) 7 (z_gL m 2))).symm
  · have hF : f_Fl_execute k' = (f_Fl_leaveSystem k').bind (fun r62 => some (r62.1, r62.2)) := by
      unfold f_Fl_execute; rw [ho]; rfl
    refine ex_fl hF (n2_p (n2_lsys _)) ?_
    unfold f_Fl_leaveSystem k_Fl_leaveSystem_28 k_Fl_leaveSystem_64
    rw [if_neg (show ¬ (263 : Nat) = 261 by decide), if_pos (show (0 : Int32) = 0 from rfl)]
    have u2 : z_gI k' 2 = z_gI m 2 := hE.2.2.1
    have r1 : z_gM k' 0 1 = z_gM m 0 1 := EQn_r hE.1 (by decide)
    by_cases cu : z_gI m 2 = 0
    · rw [if_pos cu, if_pos (u2.trans cu), if_neg b1, if_neg b1, Option.bind_assoc, Option.bind_assoc]
      obtain ⟨b, w1, w2⟩ := wrg (z_gM m 0 1) k' m
      show z_r k0 ((f_Fl_jump (z_gM k' 0 1) k').bind _) ((f_Mo_isWrong (z_gM m 0 1) m).bind _) FQQ
      rw [r1]
      unfold f_Fl_jump
      rw [w1, w2, po_bs2, po_bs2]
      cases b with
      | true =>
        rw [if_neg (show ¬ b2i true = 0 by decide), if_neg (show ¬ b2i true = 0 by decide)]
        unfold e_k_Mo_system_81
        rw [r_refuse 13 (by decide)]
        show z_r k0 (some (13, k')) (some (.inl (13, z_gL m 5, z_gI m 0))) FQQ
        exact r_x (by decide) 13 hp.2.2.1 (PR_5 hp) (PR_c hp)
      | false =>
        refine r_eqM (y' := some (.inr (z_sI (sfF (z_gM m 0 11) (z_sL m 7 (z_gM m 0 1))) 2 1))) ?_ ?_
        · rw [if_pos (show b2i false = 0 from rfl), if_neg b1, po_nm2, if_neg b11, M_setFlags, po_bs2, po_nm2]
          rfl
        rw [if_pos (show b2i false = 0 from rfl), po_nm2, po_bs2, if_pos rfl, if_neg b11, po_nm2, po_nm2]
        show z_r k0 (S3 (-1, z_sI (z_sI (z_sL k' 10 (z_gM m 0 1)) 0 ((z_gM k' 0 11).toInt32 &&& 3285)) 2 1)) (some (.inr (z_sI (sfF (z_gM m 0 11) (z_sL m 7 (z_gM m 0 1))) 2 1))) FQQ
        rw [EQn_r hE.1 (show 11 < 16 by decide)]
        refine fin ⟨EQn_k hE.1 (Lk := [10]) (Ik := [0, 2]) (Mk := []) (Nk := []) (Lm := [7]) (Im := [2]) (Mm := []) (Nm := [1]) ?_ ?_ (by decide) (by decide) (by decide) (by decide) (by decide) (by decide) (by decide), ?_, rfl, rfl⟩
        · exact fr_sI (fr_sI (fr_sL fr_0 (by decide)) (by decide)) (by decide)
        · exact fr_sI (fr_t (fr_sL fr_0 (by decide)) (fr_w (sf_fr _ _) (by decide) (by decide) (by decide) (by decide))) (by decide)
        · exact (and_3285 (z_gM m 0 11)).trans (fw_sf (z_gM m 0 11) (z_sL m 7 (z_gM m 0 1))).symm
    · rw [if_neg cu, if_neg (fun x => cu (u2.symm.trans x)), if_neg (by decide)]
      unfold e_k_Mo_system_81
      rw [r_refuse 13 (by decide)]
      show z_r k0 (some (13, k')) (some (.inl (13, z_gL m 5, z_gI m 0))) FQQ
      exact r_x (by decide) 13 hp.2.2.1 (PR_5 hp) (PR_c hp)
