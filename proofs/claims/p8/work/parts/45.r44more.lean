theorem nb_r {k m : z_Sg} (h : EQ k m) (hF : FB m) {v : Int64} {n : Nat} (h1 : 1 ≤ n) (h8 : n ≤ 8) (dec : Bool) : ∃ w k' m1, f_Ar_neighbour v (b2i (!dec)) (nI n) k = some (w, k') ∧ f_Mo_add v 1 0 (b2i dec) (nI n) m = some (w, m1) ∧ FU k m k' (z_sN m1 1 0 (vp_nar .boolean (z_gN m 1 0))) := by
  have hf := h.2.1
  have hnar : vp_nar .boolean (z_gN m 1 0) = b2i (fb (z_gN m 1) 0) := by rw [FB_b hF 0, b2i_nar]
  have hc : (fw (z_gN m 1) &&& (1 : Int32)) = fwB (fb (z_gN m 1) 0) false false false false false false := by
    have : ∀ c p h z s d o : Bool, (fwB c p h z s d o &&& (1 : Int32)) = fwB c false false false false false false := by decide +kernel
    rw [fw_B, this]
  have back : ∀ (k1 m1 : z_Sg), FU k m k1 m1 → ∃ k', f_Ar_settle 1 (fw (z_gN m 1) &&& (1 : Int32)) 0 k1 = some k' ∧ FU k m k' (z_sN m1 1 0 (vp_nar .boolean (z_gN m 1 0))) := by
    intro k1 m1 hU
    obtain ⟨f1, f2, f3⟩ := hU
    refine ⟨_, K_set f3 (show (1 : Int32) = fwB true false false false false false false by decide) (show (0 : Int32) = fwB false false false false false false false by decide) hc, fr_t (fr_w f1 (by decide) (by decide) (by decide) (by decide)) (fr_sI fr_0 (by decide)), fr_t f2 (fr_sN fr_0 (by decide)), ?_⟩
    rw [hnar]
    refine Eq.trans ?_ (fw_of (f := z_gN (z_sN m1 1 0 (b2i (fb (z_gN m 1) 0))) 1) (fb_b (b := fb (z_gN m 1) 0) rfl) (p := fb (z_gN m1 1) 1) rfl (h := fb (z_gN m1 1) 2) rfl (z := fb (z_gN m1 1) 3) rfl (s := fb (z_gN m1 1) 4) rfl (d := fb (z_gN m1 1) 5) rfl (o := fb (z_gN m1 1) 6) rfl).symm
    show fwB _ _ _ _ _ _ _ = _
    simp [sel]
  unfold f_Ar_neighbour k_Ar_neighbour_36
  rw [po_nm2, hf]
  cases dec with
  | false =>
    obtain ⟨w, k1, m1, a1, a2, a3, _⟩ := sum_r hf false h1 h8 (em_r n v) (em_r n 1)
    obtain ⟨k', b1, b2⟩ := back k1 m1 a3
    refine ⟨w, k', m1, ?_, a2, b2⟩
    have a1' : f_Ar_sum v 1 0 (nI n) k = some (w, k1) := a1
    rw [if_neg (show ¬ b2i (!false) = 0 by decide), a1', po_bs2, b1, po_bs2]
  | true =>
    obtain ⟨w, k1, m1, a1, a2, a3, _⟩ := dif_r hf false h1 h8 (em_r n v) (em_r n 1)
    obtain ⟨k', b1, b2⟩ := back k1 m1 a3
    refine ⟨w, k', m1, ?_, a2, b2⟩
    have a1' : f_Ar_difference v 1 0 (nI n) k = some (w, k1) := a1
    rw [if_pos (show b2i (!true) = 0 from rfl), a1', po_bs2, b1, po_bs2]
def mGood (n r : Nat) (small : Int32) : Prop := r < 2 ∨ (n = 255 ∧ (r = 6 ∨ ((r = 2 ∨ r = 4) ∧ small = 0)))
theorem tm_more {k : z_Sg} {n r : Nat} (hc : n = 254 ∨ n = 255) (hr : r < 8) (ho : z_gI k 11 = nI n) (h13 : z_gI k 13 = nI r) : (mGood n r (z_gI k 5) → f_De_isToldWithModrm k = some 1) ∧ (¬ mGood n r (z_gI k 5) → f_De_isToldWithModrm k = some 0) := by
  have rl : ∀ r, r < 8 → ((2 : Int32) ≤ nI r ↔ 2 ≤ r) ∧ (nI r < (2 : Int32) ↔ r < 2) ∧ (nI r = (6 : Int32) ↔ r = 6) ∧ (nI r = (2 : Int32) ↔ r = 2) ∧ (nI r = (4 : Int32) ↔ r = 4) := by decide +kernel
  obtain ⟨l1, l2, l3, l4, l5⟩ := rl r hr
  unfold mGood
  rcases hc with rfl | rfl
  · have e : f_De_isToldWithModrm k = if (2 : Int32) ≤ z_gI k 13 then some 0 else some 1 := by
      unfold f_De_isToldWithModrm; rw [ho]; rfl
    rw [e, h13]
    by_cases c : 2 ≤ r
    · rw [if_pos (l1.mpr c)]
      exact ⟨fun h => by rcases h with h | h <;> omega, fun _ => rfl⟩
    · rw [if_neg (fun x => c (l1.mp x))]
      exact ⟨fun _ => rfl, fun h => absurd (Or.inl (by omega)) h⟩
  · have e : f_De_isToldWithModrm k = if (z_gI k 13) < (2 : Int32) then some 1 else (if (z_gI k 13) = (6 : Int32) then some 1 else (if (z_gI k 13) = (2 : Int32) then (if z_gI k 5 = 0 then some 1 else some 0) else (if (z_gI k 13) = (4 : Int32) then (if z_gI k 5 = 0 then some 1 else some 0) else some 0))) := by
      unfold f_De_isToldWithModrm; rw [ho]; rfl
    rw [e, h13]
    by_cases c2 : r < 2
    · rw [if_pos (l2.mpr c2)]
      exact ⟨fun _ => rfl, fun h => absurd (Or.inl c2) h⟩
    · rw [if_neg (fun x => c2 (l2.mp x))]
      by_cases c6 : r = 6
      · rw [if_pos (l3.mpr c6)]
        exact ⟨fun _ => rfl, fun h => absurd (Or.inr ⟨rfl, Or.inl c6⟩) h⟩
      · rw [if_neg (fun x => c6 (l3.mp x))]
        by_cases c24 : r = 2 ∨ r = 4
        · have : (if nI r = (2 : Int32) then (if z_gI k 5 = 0 then some (1 : Int32) else some 0) else (if nI r = (4 : Int32) then (if z_gI k 5 = 0 then some 1 else some 0) else some 0)) = if z_gI k 5 = 0 then some 1 else some 0 := by
            by_cases d2 : r = 2
            · rw [if_pos (l4.mpr d2)]
            · rw [if_neg (fun x => d2 (l4.mp x)), if_pos (l5.mpr (by omega))]
          rw [this]
          by_cases cs : z_gI k 5 = 0
          · rw [if_pos cs]
            exact ⟨fun _ => rfl, fun h => absurd (Or.inr ⟨rfl, Or.inr ⟨c24, cs⟩⟩) h⟩
          · rw [if_neg cs]
            refine ⟨fun h => ?_, fun _ => rfl⟩
            rcases h with h | ⟨_, h | h⟩
            · omega
            · exact absurd h c6
            · exact absurd h.2 cs
        · rw [if_neg (fun x => c24 (Or.inl (l4.mp x))), if_neg (fun x => c24 (Or.inr (l5.mp x)))]
          refine ⟨fun h => ?_, fun _ => rfl⟩
          rcases h with h | ⟨_, h | h⟩
          · omega
          · exact absurd h c6
          · exact absurd h.1 c24
theorem more_M {m : z_Sg} {n r s : Nat} (hc : (n = 254 ∧ s = 1) ∨ (n = 255 ∧ (s = 2 ∨ s = 4 ∨ s = 8))) (hr : r < 8) (h8 : z_gI m 8 = nI r) : (mGood n r (z_gI m 16) → (if (z_gI m 8) < (2 : Int32) then (e_k_Mo_more_49 (nI s) m) else (if nI s ≤ (1 : Int32) then (e_k_Mo_more_53 (nI s) m) else (if (z_gI m 8) = (6 : Int32) then (e_k_Mo_more_49 (nI s) m) else (if (z_gI m 8) = (2 : Int32) then (e_k_Mo_more_42 (nI s) m) else (if (z_gI m 8) = (4 : Int32) then (e_k_Mo_more_42 (nI s) m) else (e_k_Mo_more_53 (nI s) m)))))) = e_k_Mo_more_65 (nI s) m) ∧ (¬ mGood n r (z_gI m 16) → (if (z_gI m 8) < (2 : Int32) then (e_k_Mo_more_49 (nI s) m) else (if nI s ≤ (1 : Int32) then (e_k_Mo_more_53 (nI s) m) else (if (z_gI m 8) = (6 : Int32) then (e_k_Mo_more_49 (nI s) m) else (if (z_gI m 8) = (2 : Int32) then (e_k_Mo_more_42 (nI s) m) else (if (z_gI m 8) = (4 : Int32) then (e_k_Mo_more_42 (nI s) m) else (e_k_Mo_more_53 (nI s) m)))))) = z_eb (e_f_Mo_refuse (6 : Int32) m) (fun r27 => (e_k_Mo_more_65 (nI s) r27))) := by
  have rl : ∀ r, r < 8 → (nI r < (2 : Int32) ↔ r < 2) ∧ (nI r = (6 : Int32) ↔ r = 6) ∧ (nI r = (2 : Int32) ↔ r = 2) ∧ (nI r = (4 : Int32) ↔ r = 4) := by decide +kernel
  obtain ⟨l2, l3, l4, l5⟩ := rl r hr
  have g49 : e_k_Mo_more_49 (nI s) m = e_k_Mo_more_65 (nI s) m := rfl
  have g53 : e_k_Mo_more_53 (nI s) m = z_eb (e_f_Mo_refuse (6 : Int32) m) (fun r27 => (e_k_Mo_more_65 (nI s) r27)) := rfl
  unfold mGood e_k_Mo_more_42
  rw [h8, g49, g53]
  by_cases c2 : r < 2
  · rw [if_pos (l2.mpr c2)]
    exact ⟨fun _ => rfl, fun h => absurd (Or.inl c2) h⟩
  · rw [if_neg (fun x => c2 (l2.mp x))]
    rcases hc with ⟨rfl, rfl⟩ | ⟨rfl, hs⟩
    · rw [if_pos (by decide)]
      exact ⟨fun h => by rcases h with h | h <;> omega, fun _ => rfl⟩
    · have hs1 : ¬ nI s ≤ (1 : Int32) := by rcases hs with rfl | rfl | rfl <;> decide
      rw [if_neg hs1]
      by_cases c6 : r = 6
      · rw [if_pos (l3.mpr c6)]
        exact ⟨fun _ => rfl, fun h => absurd (Or.inr ⟨rfl, Or.inl c6⟩) h⟩
      · rw [if_neg (fun x => c6 (l3.mp x))]
        by_cases c24 : r = 2 ∨ r = 4
        · have : ∀ A B : Option (Sum z_Dd z_Sg), (if nI r = (2 : Int32) then (if z_gI m 16 = 0 then A else B) else (if nI r = (4 : Int32) then (if z_gI m 16 = 0 then A else B) else B)) = if z_gI m 16 = 0 then A else B := by
            intro A B
            by_cases d2 : r = 2
            · rw [if_pos (l4.mpr d2)]
            · rw [if_neg (fun x => d2 (l4.mp x)), if_pos (l5.mpr (by omega))]
          rw [this]
          by_cases cs : z_gI m 16 = 0
          · rw [if_pos cs]
            exact ⟨fun _ => rfl, fun h => absurd (Or.inr ⟨rfl, Or.inr ⟨c24, cs⟩⟩) h⟩
          · rw [if_neg cs]
            refine ⟨fun h => ?_, fun _ => rfl⟩
            rcases h with h | ⟨_, h | h⟩
            · omega
            · exact absurd h c6
            · exact absurd h.2 cs
        · rw [if_neg (fun x => c24 (Or.inl (l4.mp x))), if_neg (fun x => c24 (Or.inr (l5.mp x)))]
          refine ⟨fun h => ?_, fun _ => rfl⟩
          rcases h with h | ⟨_, h | h⟩
          · omega
          · exact absurd h c6
          · exact absurd h.1 c24
theorem g_more {k0 k m : z_Sg} {n : Nat} (hc : n = 254 ∨ n = 255) (h : TQ (nI n) k0 k m) : z_r k0 ((k_De_decode_43 (-1) 2 k).bind S1) (e_f_Mo_more (nI (szO n (z_gI m 10) (z_gI m 16))) m) FQQ := by
  have gen : ∀ n, n = 254 ∨ n = 255 → n < 256 ∧ eE n = true ∧ srE n = true ∧ onE n = true ∧ ¬ n / 8 = 57 ∧ ¬ nI n = 246 ∧ ¬ nI n = 247 := by
    rintro n (rfl | rfl) <;> decide
  obtain ⟨n1, n2, n3, n4, n5, n6, n7⟩ := gen n hc
  obtain ⟨s1, s8⟩ := szO_in n (z_gI m 10) (z_gI m 16)
  obtain ⟨x6, x5⟩ := TQ_x h
  have hcs : (n = 254 ∧ szO n (z_gI m 10) (z_gI m 16) = 1) ∨ (n = 255 ∧ (szO n (z_gI m 10) (z_gI m 16) = 2 ∨ szO n (z_gI m 10) (z_gI m 16) = 4 ∨ szO n (z_gI m 10) (z_gI m 16) = 8)) := by
    rcases hc with rfl | rfl
    · exact Or.inl ⟨rfl, rfl⟩
    · exact Or.inr ⟨rfl, szV_in _ _⟩
  unfold e_f_Mo_more
  refine dec_mm h (by decide) (tis (Or.inr (by decide)) (by rw [TQ_o h]; exact o_bs (by omega) n5)) (by decide) (fun k1 m1 h1 hM e6 e5 _ => ?_)
  obtain ⟨r, hr, r1, r2⟩ := MR_reg hM
  obtain ⟨y6, y5⟩ := TQ_x h1
  have tk := tm_more hc hr (TQ_o h1) r1
  have tM := more_M (m := m1) hcs hr r2
  rw [y5] at tk
  by_cases good : mGood n r (z_gI m1 16)
  · rw [tM.1 good]
    refine told (tk.1 good) ?_
    unfold e_k_Mo_more_65
    refine dec_mp h1 hM (fun k2 m2 hp g6 g5 g13 g8 => ?_)
    rw [po_nm2]
    refine dec_90 (P9_g hp (z_gL m2 0 + (z_gI m2 6).toInt64)) rfl (bn_0 (by decide) (by rw [TQ_o hp.1]; exact n6) (by rw [TQ_o hp.1]; exact n7)) (fun k3 hq _ i6 i5 i13 => ?_)
    have w6 : z_gI k3 6 = z_gI m 10 := by rw [i6, g6, e6, x6]
    have w5 : z_gI k3 5 = z_gI m 16 := by rw [i5, g5, e5, x5]
    have w13 : z_gI k3 13 = nI r := by rw [i13, g13, r1]
    have m8 : z_gI (z_sL m2 7 (z_gL m2 0 + (z_gI m2 6).toInt64)) 8 = nI r := by show z_gI m2 8 = _; rw [g8, r2]
    obtain ⟨z6, z5⟩ := PO_sz hq
    have ho3 : z_gI k3 11 = nI n := hq.1.2.2.2.1
    generalize hm4 : z_sL m2 7 (z_gL m2 0 + (z_gI m2 6).toInt64) = m4 at *
    rw [m8]
    have rl : ∀ r, r < 8 → ((2 : Int32) ≤ nI r ↔ 2 ≤ r) ∧ (nI r = (6 : Int32) ↔ r = 6) ∧ (nI r = (1 : Int32) ↔ r = 1) ∧ (nI r = (0 : Int32) ↔ r = 0) ∧ (nI r = (2 : Int32) ↔ r = 2) ∧ (nI r = (4 : Int32) ↔ r = 4) := by decide +kernel
    obtain ⟨l1, l6, li, l0, l2, l4⟩ := rl r hr
    have isw : ∀ k', z_gI k' 11 = nI n → z_gI k' 13 = nI r → f_Op_isWritten k' = some (if n = 254 ∨ r < 2 then 1 else 0) := by
      intro k' e e13
      rcases hc with rfl | rfl
      · rw [if_pos (Or.inl rfl)]
        unfold f_Op_isWritten; rw [e]; rfl
      · have : f_Op_isWritten k' = if (2 : Int32) ≤ z_gI k' 13 then some 0 else some 1 := by
          unfold f_Op_isWritten; rw [e]; rfl
        rw [this, e13]
        by_cases c : 2 ≤ r
        · rw [if_pos (l1.mpr c), if_neg (by omega)]
        · rw [if_neg (fun x => c (l1.mp x)), if_pos (Or.inr (by omega))]
    by_cases c2 : 2 ≤ r
    · have n255 : n = 255 := by
        rcases good with g | g
        · omega
        · exact g.1
      subst n255
      rw [if_pos (l1.mpr c2)]
      by_cases c6 : r = 6
      · rw [if_pos (l6.mpr c6), M_stackSize, po_bs2]
        have hS8 := szS_8 (z_gI m4 10) (z_gI m4 16)
        refine run_e (n := 255) (by decide) n2 hq (Or.inl rfl) (by omega) (by omega) ?_ (fun k' e e13 => ?_) (fun k5 m5 v q1 q2 q3 q4 q5 q6 q7 q8 q9 q10 => ?_)
        · have : f_Op_bytesOfE k3 = if (z_gI k3 13) = (6 : Int32) then (f_De_sizeOnStack k3).bind (fun r10 => k_Op_bytesOfE_153 r10 k3) else (if (2 : Int32) ≤ (z_gI k3 13) then (k_Op_bytesOfE_153 (8 : Int32) k3) else ((f_De_sizeV k3).bind (fun r9 => k_Op_bytesOfE_153 r9 k3))) := by
            unfold f_Op_bytesOfE; rw [ho3]; rfl
          rw [this, w13, if_pos (l6.mpr c6), K_szS hq.1.1.1, po_bs2]; rfl
        · rw [isw k' e (e13.trans w13), if_neg (by omega)]
        · have hF : f_Fl_execute k5 = (f_Op_value k5).bind (fun r52 => (f_De_sizeOnStack k5).bind (fun r53 => (f_Fl_push r52 r53 k5).bind (fun r54 => k_Fl_execute_566 r54.1 r54.2))) := by
            have : f_Fl_execute k5 = if (z_gI k5 13) = (2 : Int32) then ((f_Op_value k5).bind (fun r57 => (f_Fl_call r57 k5).bind (fun r58 => k_Fl_execute_566 r58.1 r58.2))) else (if (z_gI k5 13) = (4 : Int32) then ((f_Op_value k5).bind (fun r55 => (f_Fl_jump r55 k5).bind (fun r56 => k_Fl_execute_566 r56.1 r56.2))) else (if (z_gI k5 13) = (6 : Int32) then ((f_Op_value k5).bind (fun r52 => (f_De_sizeOnStack k5).bind (fun r53 => (f_Fl_push r52 r53 k5).bind (fun r54 => k_Fl_execute_566 r54.1 r54.2)))) else (k_Fl_execute_566 (-2 : Int32) k5))) := by
              unfold f_Fl_execute; rw [q5]; rfl
            rw [this, q8, w13, if_neg (fun x => by have := l2.mp x; omega), if_neg (fun x => by have := l4.mp x; omega), if_pos (l6.mpr c6)]
          have t10 : szS (z_gI m5 10) (z_gI m5 16) = szS (z_gI m4 10) (z_gI m4 16) := by rw [fr_I q10 10 (by decide), fr_I q10 16 (by decide)]
          rw [q3, po_bs2, K_szS q1.1.1, po_bs2] at hF
          refine ex_fl hF (n2_b (n2_push _ _ _) (fun o ho => n2_s ho)) ?_
          rw [M_stackSize, po_bs2]
          have e415 : ∀ x : Option (Sum z_Dd z_Sg), z_eb x (fun r18 => ((k_Mo_more_224 r18).bind (fun o => some (.inr o)))) = x := fun x => eb_id x k_Mo_more_224 (fun _ => rfl)
          rw [e415]
          exact push_fin q1.2.2.1 q1.1 q1.2.1 (by rw [t10]; omega) (em_r _ v)
      · rw [if_neg (fun x => c6 (l6.mp x)), po_nm2]
        have c24 : r = 2 ∨ r = 4 := by
          rcases good with g | ⟨_, g | g⟩
          · omega
          · exact absurd g c6
          · exact g.1
        refine run_e (n := 255) (s := 8) (by decide) n2 hq (Or.inl rfl) (by decide) (by decide) ?_ (fun k' e e13 => ?_) (fun k5 m5 v q1 q2 q3 q4 q5 q6 q7 q8 q9 q10 => ?_)
        · have : f_Op_bytesOfE k3 = if (z_gI k3 13) = (6 : Int32) then (f_De_sizeOnStack k3).bind (fun r10 => k_Op_bytesOfE_153 r10 k3) else (if (2 : Int32) ≤ (z_gI k3 13) then (k_Op_bytesOfE_153 (8 : Int32) k3) else ((f_De_sizeV k3).bind (fun r9 => k_Op_bytesOfE_153 r9 k3))) := by
            unfold f_Op_bytesOfE; rw [ho3]; rfl
          rw [this, w13, if_neg (fun x => c6 (l6.mp x)), if_pos (l1.mpr c2)]; rfl
        · rw [isw k' e (e13.trans w13), if_neg (by omega)]
        · have hF0 : f_Fl_execute k5 = if (z_gI k5 13) = (2 : Int32) then ((f_Op_value k5).bind (fun r57 => (f_Fl_call r57 k5).bind (fun r58 => k_Fl_execute_566 r58.1 r58.2))) else (if (z_gI k5 13) = (4 : Int32) then ((f_Op_value k5).bind (fun r55 => (f_Fl_jump r55 k5).bind (fun r56 => k_Fl_execute_566 r56.1 r56.2))) else (if (z_gI k5 13) = (6 : Int32) then ((f_Op_value k5).bind (fun r52 => (f_De_sizeOnStack k5).bind (fun r53 => (f_Fl_push r52 r53 k5).bind (fun r54 => k_Fl_execute_566 r54.1 r54.2)))) else (k_Fl_execute_566 (-2 : Int32) k5))) := by
              unfold f_Fl_execute; rw [q5]; rfl
          have hM5 : z_gI m5 8 = nI r := by rw [fr_I q10 8 (by decide)]; exact m8
          have g7 : z_gL m5 7 = z_gL m4 7 := fr_L q10 7 (by decide)
          rcases c24 with c | c
          · have hF : f_Fl_execute k5 = (f_Fl_call v k5).bind (fun r58 => k_Fl_execute_566 r58.1 r58.2) := by
              rw [hF0, q8, w13, if_pos (l2.mpr c), q3, po_bs2]
            refine ex_fl hF (n2_b (n2_call _ _) (fun o ho => n2_s ho)) ?_
            refine call_r q1.2.2.1 q1.1 q1.2.1 v (fun o => rfl) ?_
            show e_k_Mo_more_209 (z_gL m4 7) (z_sL m5 7 v) = _
            unfold e_k_Mo_more_209
            rw [if_pos (show z_gI (z_sL m5 7 v) 8 = 2 from hM5.trans (l2.mpr c)), ← g7]
            rfl
          · have hF : f_Fl_execute k5 = (f_Fl_jump v k5).bind (fun r58 => k_Fl_execute_566 r58.1 r58.2) := by
              rw [hF0, q8, w13, if_neg (fun x => by have := l2.mp x; omega), if_pos (l4.mpr c), q3, po_bs2]
            refine ex_fl hF (n2_b (n2_jump _ _) (fun o ho => n2_s ho)) ?_
            rw [Option.bind_assoc]
            refine jump_r q1.2.2.1 (PR_5 q1) (PR_c q1) v (fun o f c g1 g2 => ?_) ?_
            · exact S3_no _ f c g1 g2
            · unfold e_k_Mo_more_209
              rw [if_neg (show ¬ z_gI (z_sL m5 7 v) 8 = 2 from fun x => by have := l2.mp (hM5.symm.trans x); omega)]
              exact fin (EQ_jump q1.1 v)
    · rw [if_neg (fun x => c2 (l1.mp x)), if_neg (show ¬ z_bad (0 : Int32) 7 by decide), po_nm2]
      refine run_e (by omega) n2 hq (Or.inr rfl) s1 s8 ?_ (fun k' e e13 => ?_) (fun k5 m5 v q1 q2 q3 q4 q5 q6 q7 q8 q9 q10 => ?_)
      · rcases hc with rfl | rfl
        · rw [be_1 (n := 254) (by decide) (by decide) ho3]; rfl
        · have : f_Op_bytesOfE k3 = if (z_gI k3 13) = (6 : Int32) then (f_De_sizeOnStack k3).bind (fun r10 => k_Op_bytesOfE_153 r10 k3) else (if (2 : Int32) ≤ (z_gI k3 13) then (k_Op_bytesOfE_153 (8 : Int32) k3) else ((f_De_sizeV k3).bind (fun r9 => k_Op_bytesOfE_153 r9 k3))) := by
            unfold f_Op_bytesOfE; rw [ho3]; rfl
          rw [this, w13, if_neg (fun x => by have := l6.mp x; omega), if_neg (fun x => c2 (l1.mp x)), K_sizeV, po_bs2, w6, w5]; rfl
      · rw [isw k' e (e13.trans w13), if_pos (Or.inr (by omega))]
      · have hM5 : z_gI m5 8 = nI r := by rw [fr_I q10 8 (by decide)]; exact m8
        have hfl : f_Fl_execute k5 = some (-2, k5) := by
          rcases hc with rfl | rfl
          · exact fl_no (n := 254) (by decide) (by decide) q5
          · have : f_Fl_execute k5 = if (z_gI k5 13) = (2 : Int32) then ((f_Op_value k5).bind (fun r57 => (f_Fl_call r57 k5).bind (fun r58 => k_Fl_execute_566 r58.1 r58.2))) else (if (z_gI k5 13) = (4 : Int32) then ((f_Op_value k5).bind (fun r55 => (f_Fl_jump r55 k5).bind (fun r56 => k_Fl_execute_566 r56.1 r56.2))) else (if (z_gI k5 13) = (6 : Int32) then ((f_Op_value k5).bind (fun r52 => (f_De_sizeOnStack k5).bind (fun r53 => (f_Fl_push r52 r53 k5).bind (fun r54 => k_Fl_execute_566 r54.1 r54.2)))) else (k_Fl_execute_566 (-2 : Int32) k5))) := by
              unfold f_Fl_execute; rw [q5]; rfl
            rw [this, q8, w13, if_neg (fun x => by have := l2.mp x; omega), if_neg (fun x => by have := l4.mp x; omega), if_neg (fun x => by have := l6.mp x; omega)]
            rfl
        have h256 : ¬ (256 : Int32) ≤ z_gI k5 11 := by
          rw [q5]
          rcases hc with rfl | rfl <;> decide
        refine ex_one hfl (sr_no (by omega) n3 q5) h256 ?_
        rw [on_215 n1 n4 q5, q6, q7, w6, w5]
        have ee : ∀ x, f_On_executeSingle x k5 = k_On_executeSingle_302 x k5 := by
          intro x
          rcases hc with rfl | rfl <;> (unfold f_On_executeSingle; rw [q5]; rfl)
        rw [ee]
        unfold k_On_executeSingle_302 k_On_executeSingle_332
        rw [q3, po_bs2, q8, w13]
        have fl0 : z_gN m5 1 0 = z_gN m4 1 0 := by rw [fr_N q10 1 (by decide)]
        obtain ⟨w, k6, m6, a1, a2, a3⟩ := nb_r q1.1 q1.2.2.2.2.1 (v := v) s1 s8 (decide (r = 1))
        obtain ⟨k7, m7, b1, b2, b3, _⟩ := wE (EQ_FU q1.1 a3) (FU_5 a3 q1.2.1) (ME_FU q2 a3) s1 s8 (em_r _ w)
        have kk : (if nI r = 0 then ((f_Ar_neighbour v 1 (nI (szO n (z_gI m 10) (z_gI m 16))) k5).bind (fun r38 => (f_Op_put r38.1 r38.2).bind (fun r39 => k_On_executeSingle_432 r39))) else ((f_Ar_neighbour v 0 (nI (szO n (z_gI m 10) (z_gI m 16))) k5).bind (fun r38 => (f_Op_put r38.1 r38.2).bind (fun r39 => k_On_executeSingle_432 r39)))) = some k7 := by
          have : r = 0 ∨ r = 1 := by omega
          rcases this with rfl | rfl
          · have a1' : f_Ar_neighbour v 1 (nI (szO n (z_gI m 10) (z_gI m 16))) k5 = some (w, k6) := a1
            rw [if_pos (show nI 0 = 0 from rfl), a1', po_bs2, b1]; rfl
          · have a1' : f_Ar_neighbour v 0 (nI (szO n (z_gI m 10) (z_gI m 16))) k5 = some (w, k6) := a1
            rw [if_neg (show ¬ nI 1 = 0 by decide), a1', po_bs2, b1]; rfl
        have mm : (if z_gI m5 8 = (1 : Int32) then ((k_Mo_more_129 (nI (szO n (z_gI m 10) (z_gI m 16))) (z_gN m4 1 (0 : Int32).toNatClampNeg) v (1 : Int64) (0 : Int32) (1 : Int32) m5).bind (fun o => some (Sum.inr (α := z_Dd) o))) else ((k_Mo_more_129 (nI (szO n (z_gI m 10) (z_gI m 16))) (z_gN m4 1 (0 : Int32).toNatClampNeg) v (1 : Int64) (0 : Int32) (0 : Int32) m5).bind (fun o => some (Sum.inr o)))) = some (.inr m7) := by
          have t : z_gN m4 1 (0 : Int32).toNatClampNeg = z_gN m5 1 0 := fl0.symm
          rw [hM5, t]
          unfold k_Mo_more_129
          have : r = 0 ∨ r = 1 := by omega
          rcases this with rfl | rfl
          · have a2' : f_Mo_add v 1 0 0 (nI (szO n (z_gI m 10) (z_gI m 16))) m5 = some (w, m6) := a2
            rw [if_neg (show ¬ nI 0 = 1 by decide), a2', po_bs2, if_neg (show ¬ z_bad (0 : Int32) 7 by decide), po_nm2]
            have b2' : f_Mo_setE (nI (szO n (z_gI m 10) (z_gI m 16))) w (z_sN m6 1 (0 : Int32).toNatClampNeg (vp_nar .boolean (z_gN m5 1 0))) = some m7 := b2
            rw [b2']; rfl
          · have a2' : f_Mo_add v 1 0 1 (nI (szO n (z_gI m 10) (z_gI m 16))) m5 = some (w, m6) := a2
            rw [if_pos (show nI 1 = 1 from rfl), a2', po_bs2, if_neg (show ¬ z_bad (0 : Int32) 7 by decide), po_nm2]
            have b2' : f_Mo_setE (nI (szO n (z_gI m 10) (z_gI m 16))) w (z_sN m6 1 (0 : Int32).toNatClampNeg (vp_nar .boolean (z_gN m5 1 0))) = some m7 := b2
            rw [b2']; rfl
        refine r_eqM mm ?_
        rw [kk]
        exact fin1 b3
  · rw [tM.2 good]
    exact untold (tk.2 good) h1.2.1 h1.1
