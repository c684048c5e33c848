def N2 (x : Option (Int32 × z_Sg)) : Prop := z_po x (fun o => ¬ o.1 = -2)
theorem n2_s {w : Int32} {q : z_Sg} (h : ¬ w = -2) : N2 (some (w, q)) := po_s h
theorem n2_b {x : Option (Int32 × z_Sg)} {f : Int32 × z_Sg → Option (Int32 × z_Sg)} (h : N2 x) (h2 : ∀ o, ¬ o.1 = -2 → N2 (f o)) : N2 (x.bind f) := po_b h h2
theorem n2_a {α : Type} {x : Option α} {f : α → Option (Int32 × z_Sg)} (h2 : ∀ o, N2 (f o)) : N2 (x.bind f) := po_b (R := fun _ => True) (fun _ _ => trivial) (fun o _ => h2 o)
theorem n2_i {c : Prop} {d : Decidable c} {a b : Option (Int32 × z_Sg)} (h1 : N2 a) (h2 : N2 b) : N2 (@ite _ c d a b) := po_i (fun _ => h1) (fun _ => h2)
theorem n2_n {α : Type} {e : α} {f : α → Option (Int32 × z_Sg)} (h : N2 (f e)) : N2 (z_nm e f) := h
theorem n2_0 : N2 none := po_0
theorem n2_p {x : Option (Int32 × z_Sg)} (h : N2 x) : N2 (x.bind (fun r => some (r.1, r.2))) := n2_b h (fun o ho => n2_s ho)
theorem n2_rf (p a : Int64) {w : Int32} (hw : ¬ w = -2) (q : z_Sg) : N2 (f_Pa_refusal p a w q) := by
  rw [K_refusal]
  by_cases h : a = -1
  · rw [if_pos h]; exact n2_s hw
  · rw [if_neg h]; exact n2_s (by decide)
theorem n2_f12 (p : Int64) (n how st : Int32) (k : z_Sg) : N2 (f_Sp_find_12 p n how st k) := by
  unfold f_Sp_find_12 k_Sp_find_12_16
  refine n2_a (fun o => ?_)
  rw [po_nm2]
  refine po_l (fun _ => True) (fun ih a _ hih => ?_) 2000 _ trivial
  have h69 : ∀ x7 q, N2 (k_Sp_find_12_69 ih a.1 a.2.1 a.2.2.1 a.2.2.2.1 x7 q) := by
    intro x7 q
    unfold k_Sp_find_12_69 k_Sp_find_12_128 k_Sp_find_12_124
    exact n2_a (fun o => n2_i n2_0 (n2_i n2_0 (n2_i (hih _ trivial) (n2_i n2_0 (n2_i (n2_p (n2_rf _ _ (by decide) _)) (n2_p (n2_rf _ _ (by decide) _)))))))
  unfold kb_Sp_find_12_16 k_Sp_find_12_128
  exact n2_i (n2_s (by decide)) (n2_i (h69 _ _) (n2_i (h69 _ _) (n2_i n2_0 (n2_i n2_0 (hih _ trivial)))))
theorem n2_f7 (p : Int64) (n how st : Int32) (k : z_Sg) : N2 (f_Sp_find_7 p n how st k) := by
  unfold f_Sp_find_7 k_Sp_find_7_16
  refine n2_a (fun o => ?_)
  rw [po_nm2]
  refine po_l (fun _ => True) (fun ih a _ hih => ?_) 2000 _ trivial
  have h69 : ∀ x7 q, N2 (k_Sp_find_7_69 ih a.1 a.2.1 a.2.2.1 a.2.2.2.1 x7 q) := by
    intro x7 q
    unfold k_Sp_find_7_69 k_Sp_find_7_128 k_Sp_find_7_124
    exact n2_a (fun o => n2_i n2_0 (n2_i n2_0 (n2_i (hih _ trivial) (n2_i n2_0 (n2_i (n2_p (n2_rf _ _ (by decide) _)) (n2_p (n2_rf _ _ (by decide) _)))))))
  unfold kb_Sp_find_7_16 k_Sp_find_7_128
  exact n2_i (n2_s (by decide)) (n2_i (h69 _ _) (n2_i (h69 _ _) (n2_i n2_0 (n2_i n2_0 (hih _ trivial)))))
theorem n2_push (v : Int64) (n : Int32) (k : z_Sg) : N2 (f_Fl_push v n k) := by
  unfold f_Fl_push k_Fl_push_53
  refine n2_i n2_0 (n2_b (n2_f12 _ _ _ _ _) (fun o ho => n2_i (n2_a (fun a => n2_i n2_0 (n2_s ho))) (n2_s ho)))
theorem n2_top (n : Int32) (k : z_Sg) : N2 (f_Fl_findTop n k) := by
  unfold f_Fl_findTop
  exact n2_i n2_0 (n2_p (n2_f12 _ _ _ _ _))
theorem n2_popR (r : Int32) (k : z_Sg) : N2 (f_Fl_popRegister r k) := by
  unfold f_Fl_popRegister k_Fl_popRegister_49
  exact n2_a (fun a => n2_b (n2_top _ _) (fun o ho => n2_i (n2_i n2_0 (n2_i n2_0 (n2_a (fun b => n2_a (fun c => n2_s ho))))) (n2_s ho)))
theorem n2_jump (p : Int64) (k : z_Sg) : N2 (f_Fl_jump p k) := by
  unfold f_Fl_jump
  exact n2_a (fun a => n2_i (n2_s (by decide)) (n2_s (by decide)))
theorem n2_at (p : Int64) (w : Int32) (k : z_Sg) : N2 (f_Op_openAt p w k) := by
  unfold f_Op_openAt k_Op_openAt_18 k_Op_openAt_35 k_Op_openAt_40
  exact n2_i (n2_a (fun a => n2_i (n2_a (fun b => n2_i (n2_p (n2_f7 _ _ _ _ _)) (n2_p (n2_f7 _ _ _ _ _)))) (n2_p (n2_f7 _ _ _ _ _)))) (n2_a (fun a => n2_i (n2_a (fun b => n2_i (n2_p (n2_f7 _ _ _ _ _)) (n2_p (n2_f7 _ _ _ _ _)))) (n2_p (n2_f7 _ _ _ _ _))))
theorem n2_popM (k : z_Sg) : N2 (f_Fl_popMemory k) := by
  unfold f_Fl_popMemory k_Fl_popMemory_37 k_Fl_popMemory_70
  refine n2_a (fun a => n2_b (n2_top _ _) (fun o ho => n2_i (n2_a (fun b => n2_b (n2_at _ _ _) (fun p hp => ?_))) ?_))
  · exact n2_i (n2_a (fun c => n2_a (fun d => n2_i n2_0 (n2_i n2_0 (n2_s hp))))) (n2_s hp)
  · exact n2_i (n2_a (fun c => n2_a (fun d => n2_i n2_0 (n2_i n2_0 (n2_s ho))))) (n2_s ho)
theorem n2_popF (k : z_Sg) : N2 (f_Fl_popFlags k) := by
  unfold f_Fl_popFlags k_Fl_popFlags_52
  exact n2_a (fun a => n2_b (n2_top _ _) (fun o ho => n2_i (n2_a (fun b => n2_n (n2_i n2_0 (n2_i n2_0 (n2_s ho))))) (n2_s ho)))
theorem n2_come (k : z_Sg) : N2 (f_Fl_comeBack k) := by
  unfold f_Fl_comeBack k_Fl_comeBack_24 k_Fl_comeBack_56
  exact n2_b (n2_top _ _) (fun o ho => n2_i (n2_a (fun b => n2_b (n2_jump _ _) (fun p hp => n2_i (n2_i n2_0 (n2_i n2_0 (n2_s hp))) (n2_s hp)))) (n2_i (n2_i n2_0 (n2_i n2_0 (n2_s ho))) (n2_s ho)))
theorem n2_leave (k : z_Sg) : N2 (f_Fl_leave k) := by
  unfold f_Fl_leave k_Fl_leave_58
  exact n2_i n2_0 (n2_b (n2_f12 _ _ _ _ _) (fun o ho => n2_i (n2_a (fun b => n2_i n2_0 (n2_n (n2_i n2_0 (n2_s ho))))) (n2_s ho)))
theorem n2_call (p : Int64) (k : z_Sg) : N2 (f_Fl_call p k) := by
  unfold f_Fl_call k_Fl_call_37
  exact n2_a (fun a => n2_i (n2_b (n2_push _ _ _) (fun o ho => n2_i (n2_s ho) (n2_s ho))) (n2_s (by decide)))
theorem n2_cd7 (x : Int64) (t : Int32) (k : z_Sg) : N2 (k_Fl_countDown_77 x t k) := by
  unfold k_Fl_countDown_77 k_Fl_countDown_107 k_Fl_countDown_125
  exact n2_i (n2_i (n2_i n2_0 (n2_s (by decide))) (n2_s (by decide))) (n2_b (n2_jump _ _) (fun o ho => n2_i (n2_i n2_0 (n2_s ho)) (n2_s ho)))
theorem n2_cd (k : z_Sg) : N2 (f_Fl_countDown k) := by
  have h : ∀ x t, N2 (k_Fl_countDown_30 x t k) := by
    intro x t
    unfold k_Fl_countDown_30 k_Fl_countDown_69 k_Fl_countDown_72 k_Fl_countDown_76
    exact n2_i (n2_cd7 _ _ _) (n2_i (n2_cd7 _ _ _) (n2_i (n2_i (n2_cd7 _ _ _) (n2_cd7 _ _ _)) (n2_i (n2_cd7 _ _ _) (n2_cd7 _ _ _))))
  unfold f_Fl_countDown
  exact n2_i n2_0 (n2_i (h _ _) (h _ _))
theorem n2_enter (k : z_Sg) : N2 (f_Fl_enterSystem k) := by
  unfold f_Fl_enterSystem
  exact n2_i n2_0 (n2_n (n2_i n2_0 (n2_s (by decide))))
theorem n2_lsys (k : z_Sg) : N2 (f_Fl_leaveSystem k) := by
  unfold f_Fl_leaveSystem k_Fl_leaveSystem_28 k_Fl_leaveSystem_64
  exact n2_i (n2_i n2_0 (n2_b (n2_jump _ _) (fun o ho => n2_i (n2_i n2_0 (n2_s ho)) (n2_s ho)))) (n2_i (n2_i n2_0 (n2_s (by decide))) (n2_s (by decide)))
theorem wrg (p : Int64) (k m : z_Sg) : ∃ b : Bool, f_Pa_isWrong p k = some (b2i b) ∧ f_Mo_isWrong p m = some (b2i b) := by
  obtain ⟨n, hn, rfl⟩ := wb_of p
  rw [p_Pa_isWrong hn, p_Mo_isWrong hn]
  by_cases hw : z_wr n
  · exact ⟨true, by rw [z_wI_pos hw]; rfl, by rw [z_wI_pos hw]; rfl⟩
  · exact ⟨false, by rw [z_wI_neg hw]; rfl, by rw [z_wI_neg hw]; rfl⟩
theorem r_x {β : Type} {k0 k m : z_Sg} {w : Int32} (hw : ¬ w = -1) (w' : Int32) (hk : ∃ f c, KF k0 k f c) (h5 : z_gL k 5 = z_gL m 5) (h0 : z_gI k 1 = z_gI m 0) {Q : z_Sg → β → Prop} : z_r k0 (some (w, k)) (some (.inl (w', z_gL m 5, z_gI m 0))) Q := by
  refine r_no hw ?_
  have := KF_n hk
  rw [h5, h0] at this
  exact this
theorem jump_r {β : Type} {k0 k m : z_Sg} (hk : ∃ f c, KF k0 k f c) (h5 : z_gL k 5 = z_gL m 5) (h0 : z_gI k 1 = z_gI m 0) (p : Int64) {K : Int32 × z_Sg → Option (Int32 × z_Sg)} {L : z_Sg → Option (Sum z_Dd β)} {Q : z_Sg → β → Prop} (hd : ∀ (o : Int32 × z_Sg) (f : Int64) (c : Int32), ¬ o.1 = -1 → KF k0 o.2 f c → z_po (K o) (fun o' => ¬ o'.1 = -1 ∧ KF k0 o'.2 f c)) (ha : z_r k0 (K (-1, z_sL k 10 p)) (L (z_sL m 7 p)) Q) : z_r k0 ((f_Fl_jump p k).bind K) (z_eb (e_f_Mo_jump p m) L) Q := by
  obtain ⟨b, b1, b2⟩ := wrg p k m
  unfold f_Fl_jump e_f_Mo_jump
  rw [b1, b2, po_bs2, po_bs2]
  cases b with
  | false =>
    rw [if_pos (show b2i false = 0 from rfl), if_pos (show b2i false = 0 from rfl)]
    exact ha
  | true =>
    rw [if_neg (show ¬ b2i true = 0 by decide), if_neg (show ¬ b2i true = 0 by decide), r_refuse 13 (by decide), po_bs2]
    have hk' := KF_n hk
    rw [h5, h0] at hk'
    intro o r ho hr
    cases hr
    have := hd (13, k) (z_gL m 5) (z_gI m 0) (by decide : ¬ (13 : Int32) = -1) hk' o ho
    exact ⟨fun d e => by cases e; exact this, fun b e => by cases e⟩
theorem EQ_jump {k m : z_Sg} (h : EQ k m) (p : Int64) : EQ (z_sL k 10 p) (z_sL m 7 p) := by
  obtain ⟨e1, e2, e3, e4⟩ := h
  exact ⟨EQn_k e1 (Lk := [10]) (Ik := []) (Mk := []) (Nk := []) (Lm := [7]) (Im := []) (Mm := []) (Nm := []) (fr_sL fr_0 (by decide)) (fr_sL fr_0 (by decide)) (by decide) (by decide) (by decide) (by decide) (by decide) (by decide) (by decide), e2, e3, rfl⟩
theorem PR_5 {o : Int32} {k0 k m : z_Sg} (h : PR o k0 k m) : z_gL k 5 = z_gL m 5 := EQn_L h.1.1 (by decide)
theorem PR_c {o : Int32} {k0 k m : z_Sg} (h : PR o k0 k m) : z_gI k 1 = z_gI m 0 := h.1.1.2.2.1
theorem r_us {β : Type} {k0 k m : z_Sg} {n : Nat} (hn : n < 512) (hx : ¬ n / 8 = 57) {t : Int32} (ht : ¬ t = 0) (ht4 : ¬ (t &&& (4 : Int32)) = 0) (h : TQ (nI n) k0 k m) {A : Option (Sum z_Dd β)} {l : z_Sg → Option (Sum z_Dd β)} {Q : z_Sg → β → Prop} (ha : f_De_isToldInSize t k = some 1 → z_r k0 ((k_De_decode_43 (-1) t k).bind S1) A Q) : z_r k0 ((k_De_decode_43 (-1) t k).bind S1) (if z_gI m 16 = 0 then A else z_eb (e_f_Mo_refuse 6 m) l) Q := by
  obtain ⟨x6, x5⟩ := TQ_x h
  by_cases c : z_gI m 16 = 0
  · rw [if_pos c]
    exact ha (tis (Or.inl (by rw [x5]; exact c)) (by rw [TQ_o h]; exact o_bs hn hx))
  · rw [if_neg c]
    exact dec_sz h.2.1 h.1 ht (tis0 (by rw [x5]; exact c) ht4)
theorem dec_xn2 {β : Type} {o t : Int32} {k0 k m : z_Sg} (h : TQ o k0 k m) (ht : ¬ t = 0) (h2 : (t &&& (2 : Int32)) = 0) (hs : f_De_isToldInSize t k = some 1) {n : Nat} (h1 : 1 ≤ n) (h8 : n ≤ 8) (hb : f_De_bytesOfNumber t (z_sI k 12 3) = some (nI n)) {l : Int64 × z_Sg → Option (Sum z_Dd β)} {Q : z_Sg → β → Prop} (ha : ∀ k' b, PR o k0 k' b.2 → z_gI k' 12 = 3 → z_gL k' 9 = b.1 → fr [7] [1, 6] [3] [] m b.2 → z_gL k' 10 = z_gL b.2 7 → z_r k0 (k_Co_step_21 (-1) k') (l b) Q) : z_r k0 ((k_De_decode_43 (-1) t k).bind S1) (z_eb (e_f_Mo_number (nI n) m) l) Q := by
  rw [dec_x ht h2 hs]
  refine dec9_n (TQ_k (TQ_12 h)) (TQ_d (TQ_12 h)) h1 h8 hb (fun k' b hd h9 hg hk' => ?_)
  have h3 : z_gI k' 12 = 3 := by rw [fr_I hd.2.2.1 12 (by decide)]; rfl
  refine open_3 h3 (fun a _ => ?_)
  exact ha _ b (PR_15 (PR_of (TQ_9 (TQ_12 h) hd) hg) a) h3 h9 hd.2.2.2 hg
theorem g_jcc {k0 k m : z_Sg} {n s : Nat} (hc : (112 ≤ n ∧ n < 128 ∧ s = 1) ∨ (384 ≤ n ∧ n < 400 ∧ s = 4)) {t : Int32} (ht : ¬ t = 0) (ht4 : ¬ (t &&& (4 : Int32)) = 0) (ht2 : (t &&& (2 : Int32)) = 0) (hb : f_De_bytesOfNumber t (z_sI k 12 3) = some (nI s)) (h : TQ (nI n) k0 k m) {n' : Nat} (hn' : n' < 256) (he : n' % 16 = n % 16) : z_r k0 ((k_De_decode_43 (-1) t k).bind S1) ((f_Mo_holds (nI n') m).bind (fun r52 => e_f_Mo_branch r52 (nI s) m)) FQQ := by
  have hn : n < 512 := by omega
  obtain ⟨b, b1, b2⟩ := hld_r (n := n) (n' := n') (Sim_f h.1.1) (TQ_f h) hn (by omega) (by omega)
  rw [b2, po_bs2]
  unfold e_f_Mo_branch
  refine r_us hn (by omega) ht ht4 h (fun hs => ?_)
  unfold e_k_Mo_branch_13
  refine dec_xn2 h ht ht2 hs (by omega) (by omega) hb (fun k' bb hp h3 h9 hfr h10 => ?_)
  have ho : z_gI k' 11 = nI n := hp.2.2.2.1
  have hf : f_Fl_execute k' = k_Fl_execute_108 k' := by
    have c : ∀ n, n < 400 → ((112 ≤ n ∧ n < 128) ∨ (384 ≤ n ∧ n < 400)) → ¬ (nI n &&& (-8 : Int32)) = 80 ∧ ¬ (nI n &&& (-8 : Int32)) = 88 ∧ ((nI n &&& (-8 : Int32)) = 112 ∨ (nI n &&& (-8 : Int32)) = 120 ∨ (nI n &&& (-8 : Int32)) = 384 ∨ (nI n &&& (-8 : Int32)) = 392) := by decide +kernel
    obtain ⟨c1, c2, c3⟩ := c n (by omega) (by omega)
    unfold f_Fl_execute
    rw [ho, if_neg c1, if_neg c2]
    by_cases d1 : (nI n &&& (-8 : Int32)) = 112
    · rw [if_pos d1]
    · rw [if_neg d1]
      by_cases d2 : (nI n &&& (-8 : Int32)) = 120
      · rw [if_pos d2]
      · rw [if_neg d2]
        by_cases d3 : (nI n &&& (-8 : Int32)) = 384
        · rw [if_pos d3]
        · rw [if_neg d3]
          rcases c3 with c | c | c | c
          · exact absurd c d1
          · exact absurd c d2
          · exact absurd c d3
          · rw [if_pos c]
  have hn2 : N2 (k_Fl_execute_108 k') := by
    unfold k_Fl_execute_108 k_Fl_execute_148
    exact n2_a (fun a => n2_i (n2_s (by decide)) (n2_b (n2_jump _ _) (fun o ho => n2_s ho)))
  refine ex_fl hf hn2 ?_
  unfold k_Fl_execute_108 k_Fl_execute_148
  rw [ho, K_holds hp.1.2.1 hn, fr_N hfr 1 (by decide), ← K_holds (Sim_f h.1.1) hn, b1, po_bs2]
  cases b with
  | false =>
    rw [if_pos (show b2i false = 0 from rfl), if_pos (show b2i false = 0 from rfl)]
    exact fin hp.1
  | true =>
    rw [if_neg (show ¬ b2i true = 0 by decide), if_neg (show ¬ b2i true = 0 by decide), h9, h10, Option.bind_assoc]
    exact jump_r hp.2.2.1 (PR_5 hp) (PR_c hp) _ (fun o f c g1 g2 => S3_no _ f c g1 g2) (fin (EQ_jump hp.1 _))
