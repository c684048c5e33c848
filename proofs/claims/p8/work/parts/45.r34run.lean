def oE (n : Nat) : Bool := tmE n && !(decide (n / 8 = 57)) && !(decide (n = 246)) && !(decide (n = 247))
theorem oE_ok {n : Nat} (hn : n < 512) (h : oE n = true) : tmE n = true ∧ ¬ (nI n &&& (-8 : Int32)) = 456 ∧ ¬ nI n = 246 ∧ ¬ nI n = 247 := by
  have : ∀ n, n < 512 → oE n = true → tmE n = true ∧ ¬ (nI n &&& (-8 : Int32)) = 456 ∧ ¬ nI n = 246 ∧ ¬ nI n = 247 := by decide +kernel
  exact this n hn h
theorem TQ_x {o : Int32} {k0 k m : z_Sg} (h : TQ o k0 k m) : z_gI k 6 = z_gI m 10 ∧ z_gI k 5 = z_gI m 16 := ⟨h.1.2.2.2.2.1, h.1.2.2.2.2.2.2.1⟩
theorem run_o9 {β : Type} {k0 k m : z_Sg} {n : Nat} (hn : n < 512) (hx : oE n = true) {t : Int32} (ht : ¬ t = 0) (ht4 : (t &&& (4 : Int32)) = 0) (ht2 : ¬ (t &&& (2 : Int32)) = 0) (h : TQ (nI n) k0 k m) {l : z_Sg → Option (Sum z_Dd β)} {Q : z_Sg → β → Prop} (ha : ∀ k1 m1, P9 (nI n) k0 k1 m1 → z_gL m1 7 = z_gL m1 0 + (z_gI m1 6).toInt64 → z_gI k1 6 = z_gI m 10 → z_gI k1 5 = z_gI m 16 → z_gI m1 10 = z_gI m 10 → z_gI m1 16 = z_gI m 16 → z_r k0 ((k_De_decode_93 (-1) t k1).bind S1) (l m1) Q) : z_r k0 ((k_De_decode_43 (-1) t k).bind S1) (z_eb (e_f_Mo_takeOperand m) l) Q := by
  obtain ⟨o1, o2, o3, o4⟩ := oE_ok hn hx
  obtain ⟨x6, x5⟩ := TQ_x h
  refine dec_o h ht (tis (Or.inr ht4) (by rw [TQ_o h]; exact o2)) ht2 (fun k' e => tm_1 hn o1 e) (fun k1 m1 hp hg e6 e5 => ?_)
  obtain ⟨y6, y5⟩ := TQ_x hp.1
  exact ha k1 m1 hp hg (e6.trans x6) (e5.trans x5) (by rw [← y6, e6, x6]) (by rw [← y5, e5, x5])
theorem run_o {β : Type} {k0 k m : z_Sg} {n : Nat} (hn : n < 512) (hx : oE n = true) (h : TQ (nI n) k0 k m) {l : z_Sg → Option (Sum z_Dd β)} {Q : z_Sg → β → Prop} (ha : ∀ k2 m1, PO (nI n) k0 k2 m1 → z_gI k2 6 = z_gI m 10 → z_gI k2 5 = z_gI m 16 → z_gI m1 10 = z_gI m 10 → z_gI m1 16 = z_gI m 16 → z_r k0 ((f_Op_open k2).bind S2) (l m1) Q) : z_r k0 ((k_De_decode_43 (-1) 2 k).bind S1) (z_eb (e_f_Mo_takeOperand m) l) Q := by
  obtain ⟨o1, o2, o3, o4⟩ := oE_ok hn hx
  refine run_o9 hn hx (by decide) (by decide) (by decide) h (fun k1 m1 hp hg e6 e5 e10 e16 => ?_)
  refine dec_90 hp hg (bn_0 (by decide) (by rw [TQ_o hp.1]; exact o3) (by rw [TQ_o hp.1]; exact o4)) (fun k2 hq _ g6 g5 _ => ?_)
  exact ha k2 m1 hq (g6.trans e6) (g5.trans e5) e10 e16
def eE (n : Nat) : Bool := !([141, 143, 419, 427, 435, 443].contains n)
theorem eE_ok {n : Nat} (hn : n < 512) (h : eE n = true) : ¬ nI n = 141 ∧ ¬ nI n = 143 ∧ (¬ n = 419 ∧ ¬ n = 427 ∧ ¬ n = 435 ∧ ¬ n = 443) := by
  have : ∀ n, n < 512 → eE n = true → ¬ nI n = 141 ∧ ¬ nI n = 143 ∧ (¬ n = 419 ∧ ¬ n = 427 ∧ ¬ n = 435 ∧ ¬ n = 443) := by decide +kernel
  exact this n hn h
theorem run_e {β : Type} {k0 k m : z_Sg} {n : Nat} (hn : n < 512) (hx : eE n = true) (h : PO (nI n) k0 k m) {how : Int32} (hh : how = 0 ∨ how = 1) {s : Nat} (s1 : 1 ≤ s) (s8 : s ≤ 8) (hb : f_Op_bytesOfE k = some (nI s)) (hw : ∀ k', z_gI k' 11 = nI n → z_gI k' 13 = z_gI k 13 → f_Op_isWritten k' = some how) {l : Int64 × z_Sg → Option (Sum z_Dd β)} {Q : z_Sg → β → Prop} (ha : ∀ k' m' v, PR (nI n) k0 k' m' → ME s k' m' → f_Op_value k' = some v → v &&& mk s = v → z_gI k' 11 = nI n → z_gI k' 6 = z_gI k 6 → z_gI k' 5 = z_gI k 5 → z_gI k' 13 = z_gI k 13 → z_gL k' 9 = z_gL k 9 → fr [] [1] [3] [] m m' → z_r k0 (k_Co_step_21 (-1) k') (l (v, m')) Q) : z_r k0 ((f_Op_open k).bind S2) (z_eb (e_f_Mo_e (nI s) how m) l) Q := by
  obtain ⟨e1, e2, e3⟩ := eE_ok hn hx
  have ho : z_gI k 11 = nI n := h.1.2.2.2.1
  refine open_e h hh s1 s8 hb e1 e2 (hw (z_sI k 15 (nI s)) ho rfl) (bd_0 (k := z_sI k 15 (nI s)) hn e3 ho) (fun k' m' v q1 q2 q3 q4 q5 q6 => ?_)
  exact ha k' m' v q1 q2 q3 q4 q1.2.2.2.1 (fr_I q5 6 (by decide)) (fr_I q5 5 (by decide)) (fr_I q5 13 (by decide)) (fr_L q5 9 (by decide)) q6
def onE (n : Nat) : Bool := decide (64 ≤ n) && !(decide (n / 8 = 18)) && !(decide (n / 8 = 22)) && !(decide (n / 8 = 23)) && !(decide (n = 246)) && !(decide (n = 247)) && !(decide (n / 4 = 32))
theorem on_215 {k : z_Sg} {n : Nat} (hn : n < 256) (h : onE n = true) (ho : z_gI k 11 = nI n) : f_On_execute k = (f_On_executeSingle (nI (szO n (z_gI k 6) (z_gI k 5))) k).bind k_On_execute_223 := by
  have c : ∀ n, n < 256 → onE n = true → ¬ (nI n &&& (-8 : Int32)) = 144 ∧ ¬ (nI n &&& (-8 : Int32)) = 176 ∧ ¬ (nI n &&& (-8 : Int32)) = 184 ∧ ¬ nI n = 246 ∧ ¬ nI n = 247 := by decide +kernel
  have d : ∀ n, n < 256 → onE n = true → (64 : Int32) ≤ nI n ∧ (nI n < (128 : Int32) ∨ (131 : Int32) < nI n) := by decide +kernel
  obtain ⟨c1, c2, c3, c4, c5⟩ := c n hn h
  obtain ⟨d1, d2⟩ := d n hn h
  have e : f_On_execute k = k_On_execute_215 k := by
    unfold f_On_execute
    rw [ho, if_neg c1, if_neg c2, if_neg c3, if_neg c4, if_neg c5, if_pos d1]
    by_cases c6 : nI n < (128 : Int32)
    · rw [if_pos c6]
    · rw [if_neg c6]
      rcases d2 with d2 | d2
      · exact absurd d2 c6
      · rw [if_pos d2]
  rw [e]
  unfold k_On_execute_215
  rw [K_szO hn ho, po_bs2]
theorem fin1 {k0 k m : z_Sg} (h : EQ k m) : z_r k0 ((k_On_execute_223 k).bind S3) (some (.inr m)) FQQ := fin h
theorem fin1' {k0 k m : z_Sg} (h : EQ k m) : z_r k0 (((some k).bind k_On_execute_223).bind S3) (some (.inr m)) FQQ := fin h
theorem MR_w {k m k' m' : z_Sg} (h : MR k m) {Ls Is Ms Ns Lm Im Mm Nm : List Nat} (fk : fr Ls Is Ms Ns k k') (fm : fr Lm Im Mm Nm m m') (h1 : ∀ j ∈ Is, j ≠ 12 ∧ j ≠ 13 ∧ j ≠ 14) (h3 : ∀ j ∈ Im, j ≠ 7 ∧ j ≠ 8 ∧ j ≠ 9) : MR k' m' := MR_fr h fk fm h1 h3
theorem g_move {k0 k m : z_Sg} {n : Nat} (h1 : 132 ≤ n) (h2 : n < 140) (h : TQ (nI n) k0 k m) : z_r k0 ((k_De_decode_43 (-1) 2 k).bind S1) (e_f_Mo_move (nI n) (nI (szO n (z_gI m 10) (z_gI m 16))) m) FQQ := by
  have hn : n < 256 := by omega
  obtain ⟨s1, s8⟩ := szO_in n (z_gI m 10) (z_gI m 16)
  have fx : ∀ n, n < 140 → 132 ≤ n → oE n = true ∧ eE n = true ∧ flE n = true ∧ srE n = true ∧ onE n = true := by decide +kernel
  obtain ⟨f1, f2, f3, f4, f5⟩ := fx n h2 h1
  have le : ∀ n, n < 140 → 132 ≤ n → ((134 : Int32) ≤ nI n ↔ 134 ≤ n) ∧ ((136 : Int32) ≤ nI n ↔ 136 ≤ n) ∧ ((138 : Int32) ≤ nI n ↔ 138 ≤ n) := by decide +kernel
  obtain ⟨l4, l6, l8⟩ := le n h2 h1
  unfold e_f_Mo_move
  refine run_o (by omega) f1 h (fun k2 m1 hq g6 g5 e10 e16 => ?_)
  have hb : f_Op_bytesOfE k2 = some (nI (szO n (z_gI m 10) (z_gI m 16))) := by
    rw [be_1 hn (by omega) hq.1.2.2.2.1, g6, g5]
  obtain ⟨gv, gv1, gv2, gv3⟩ := g_r hq.1.1.1 hq.2.1 s1 s8
  rw [gv2, po_bs2]
  have ons : ∀ k', z_gI k' 11 = nI n → z_gI k' 6 = z_gI k2 6 → z_gI k' 5 = z_gI k2 5 → f_On_execute k' = (f_On_executeSingle (nI (szO n (z_gI m 10) (z_gI m 16))) k').bind k_On_execute_223 := fun k' e e6 e5 => by
    rw [on_215 hn f5 e, e6, e5, g6, g5]
  by_cases c4 : 134 ≤ n
  · rw [if_pos (l4.mpr c4)]
    by_cases c6 : 136 ≤ n
    · rw [if_pos (l6.mpr c6)]
      by_cases c8 : 138 ≤ n
      · rw [if_pos (l8.mpr c8)]
        refine run_e (by omega) f2 hq (Or.inl rfl) s1 s8 hb (fun k' e _ => ?_) (fun k3 m3 v q1 q2 q3 q4 q5 q6 q7 q8 q9 q10 => ?_)
        · have : n = 138 ∨ n = 139 := by omega
          rcases this with rfl | rfl <;> (unfold f_Op_isWritten; rw [e]; rfl)
        · refine ex_1 hn f3 f4 q5 ?_
          rw [ons k3 q5 q6 q7]
          have ee : ∀ x, f_On_executeSingle x k3 = (k_On_move_193 x k3).bind k_On_executeSingle_432 := by
            intro x
            have : n = 138 ∨ n = 139 := by omega
            rcases this with rfl | rfl <;> (unfold f_On_executeSingle f_On_move; rw [q5]; rfl)
          rw [ee]
          unfold k_On_move_193
          obtain ⟨k4, m4, w1, w2, w3, _⟩ := wG q1.1 q2.1 s1 s8 (em_r _ v)
          rw [q3, po_bs2, w1, w2]
          exact fin1 w3
      · rw [if_neg (fun x => c8 (l8.mp x))]
        refine run_e (by omega) f2 hq (Or.inr rfl) s1 s8 hb (fun k' e _ => ?_) (fun k3 m3 v q1 q2 q3 q4 q5 q6 q7 q8 q9 q10 => ?_)
        · have : n = 136 ∨ n = 137 := by omega
          rcases this with rfl | rfl <;> (unfold f_Op_isWritten; rw [e]; rfl)
        · refine ex_1 hn f3 f4 q5 ?_
          rw [ons k3 q5 q6 q7]
          have ee : ∀ x, f_On_executeSingle x k3 = (k_On_move_175 x k3).bind k_On_executeSingle_432 := by
            intro x
            have : n = 136 ∨ n = 137 := by omega
            rcases this with rfl | rfl <;> (unfold f_On_executeSingle f_On_move; rw [q5]; rfl)
          rw [ee]
          unfold k_On_move_175
          obtain ⟨gw, gw1, gw2, _⟩ := g_r q1.1.1 q2.1 s1 s8
          rw [g_fr _ q10, gv2] at gw2
          cases gw2
          obtain ⟨k4, m4, w1, w2, w3, _⟩ := wE q1.1 q1.2.1 q2 s1 s8 (em_r _ gv)
          rw [gw1, po_bs2, w1, w2]
          exact fin1 w3
    · rw [if_neg (fun x => c6 (l6.mp x))]
      refine run_e (by omega) f2 hq (Or.inr rfl) s1 s8 hb (fun k' e _ => ?_) (fun k3 m3 v q1 q2 q3 q4 q5 q6 q7 q8 q9 q10 => ?_)
      · have : n = 134 ∨ n = 135 := by omega
        rcases this with rfl | rfl <;> (unfold f_Op_isWritten; rw [e]; rfl)
      · refine ex_1 hn f3 f4 q5 ?_
        rw [ons k3 q5 q6 q7]
        have ee : ∀ x, f_On_executeSingle x k3 = (k_On_move_140 x k3).bind k_On_executeSingle_432 := by
          intro x
          have : n = 134 ∨ n = 135 := by omega
          rcases this with rfl | rfl <;> (unfold f_On_executeSingle f_On_move; rw [q5]; rfl)
        rw [ee]
        unfold k_On_move_140
        obtain ⟨gw, gw1, gw2, _⟩ := g_r q1.1.1 q2.1 s1 s8
        rw [g_fr _ q10, gv2] at gw2
        cases gw2
        obtain ⟨k4, m4, w1, w2, w3, w4, w5⟩ := wE q1.1 q1.2.1 q2 s1 s8 (em_r _ gv)
        obtain ⟨k5, m5, u1, u2, u3, _⟩ := wG w3 (MR_fr q2.1 w4 w5 (by decide) (by decide)) s1 s8 (em_r _ v)
        rw [q3, po_bs2, gw1, po_bs2, w1, w2, po_bs2, po_bs2, u1, u2]
        exact fin1 u3
  · rw [if_neg (fun x => c4 (l4.mp x))]
    refine run_e (by omega) f2 hq (Or.inl rfl) s1 s8 hb (fun k' e _ => ?_) (fun k3 m3 v q1 q2 q3 q4 q5 q6 q7 q8 q9 q10 => ?_)
    · have : n = 132 ∨ n = 133 := by omega
      rcases this with rfl | rfl <;> (unfold f_Op_isWritten; rw [e]; rfl)
    · refine ex_1 hn f3 f4 q5 ?_
      rw [ons k3 q5 q6 q7]
      have ee : ∀ x, f_On_executeSingle x k3 = k_On_executeSingle_209 x k3 := by
        intro x
        have : n = 132 ∨ n = 133 := by omega
        rcases this with rfl | rfl <;> (unfold f_On_executeSingle; rw [q5]; rfl)
      rw [ee]
      unfold k_On_executeSingle_209
      obtain ⟨gw, gw1, gw2, _⟩ := g_r q1.1.1 q2.1 s1 s8
      rw [g_fr _ q10, gv2] at gw2
      cases gw2
      obtain ⟨k4, m4, w1, w2, w3⟩ := logic_r q1.1.2.1 (EQn_L q1.1.1 (by decide)) s1 s8 (em_r _ (v &&& gv))
      rw [q3, po_bs2, gw1, po_bs2, w1, w2]
      exact fin1 (EQ_FU q1.1 w3)
theorem em_le {n s : Nat} (h : s ≤ n) {a b : Int64} (he : em n a b) : em s a b := fun i hi => he i (by omega)
theorem g_ext {k0 k m : z_Sg} {n s f : Nat} (hn : n < 512) (hx : oE n = true) (he : eE n = true) (f1 : 1 ≤ f) (f8 : f ≤ 8) (s1 : 1 ≤ s) (s8 : s ≤ 8) (h : TQ (nI n) k0 k m) (hb : ∀ k', z_gI k' 11 = nI n → z_gI k' 6 = z_gI m 10 → z_gI k' 5 = z_gI m 16 → f_Op_bytesOfE k' = some (nI f)) (hw : ∀ k', z_gI k' 11 = nI n → f_Op_isWritten k' = some 0) (hk : ∀ k' v, z_gI k' 11 = nI n → z_gI k' 6 = z_gI m 10 → z_gI k' 5 = z_gI m 16 → f_Op_value k' = some v → z_gI k' 15 = nI f → ∀ y : Option (Sum z_Dd z_Sg), z_r k0 (((f_Op_putG (sx v f) (nI s) k').bind k_On_execute_223).bind S3) y FQQ → z_r k0 (k_Co_step_21 (-1) k') y FQQ) : z_r k0 ((k_De_decode_43 (-1) 2 k).bind S1) (e_f_Mo_extend (nI s) (nI f) m) FQQ := by
  unfold e_f_Mo_extend
  refine run_o hn hx h (fun k2 m1 hq g6 g5 e10 e16 => ?_)
  refine run_e hn he hq (Or.inl rfl) f1 f8 (hb k2 hq.1.2.2.2.1 g6 g5) (fun k' e _ => hw k' e) (fun k3 m3 v q1 q2 q3 q4 q5 q6 q7 q8 q9 q10 => ?_)
  refine hk k3 v q5 (q6.trans g6) (q7.trans g5) q3 q2.2.1 _ ?_
  obtain ⟨k4, m4, w1, w2, w3, _⟩ := wG q1.1 q2.1 s1 s8 (em_r _ (sx v f))
  rw [M_extended _ f1 f8, po_bs2, w1, w2]
  exact fin1' w3
