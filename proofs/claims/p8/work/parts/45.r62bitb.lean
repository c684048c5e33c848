theorem fd_ok {s : Nat} (hs : s = 2 ∨ s = 4 ∨ s = 8) (x : Int64) (q q' : z_Sg) : ∃ d, f_Ma_floorDiv x ((8 : Int64) * (nI s).toInt64) q = some d ∧ f_Ma_floorDivM x ((8 : Int64) * (nI s).toInt64) q' = some d := by
  have h0 : ¬ (8 : Int64) * (nI s).toInt64 = 0 := by rcases hs with rfl | rfl | rfl <;> decide
  unfold f_Ma_floorDiv f_Ma_floorDivM k_Ma_floorDiv_27 k_Ma_floorDivM_27
  simp only [if_neg h0, po_nm2]
  by_cases c : (0 : Int64) ≤ x ^^^ ((8 : Int64) * (nI s).toInt64)
  · rw [if_pos c]; exact ⟨_, rfl, rfl⟩
  · rw [if_neg c]
    by_cases c2 : x / ((8 : Int64) * (nI s).toInt64) * ((8 : Int64) * (nI s).toInt64) = x
    · rw [if_pos c2]; exact ⟨_, rfl, rfl⟩
    · rw [if_neg c2]; exact ⟨_, rfl, rfl⟩
theorem low_mod {a b : Int64} {j : Nat} (hj : j ≤ 64) (h : ∀ i, i < j → tb a i = tb b i) : uN a % 2 ^ j = uN b % 2 ^ j := by
  have t : ∀ (x : Int64) i, i < 64 → (uN x).testBit i = tb x i := by
    intro x i hi
    have := tb_N (uN x) i
    rw [uN_l] at this
    rw [this, decide_eq_true hi, Bool.true_and]
  refine Nat.eq_of_testBit_eq (fun i => ?_)
  rw [Nat.testBit_mod_two_pow, Nat.testBit_mod_two_pow]
  by_cases c : i < j
  · rw [t a i (by omega), t b i (by omega), h i c]
  · rw [decide_eq_false c]; rfl
theorem em_mod {s : Nat} (hs : s = 2 ∨ s = 4 ∨ s = 8) {a b : Int64} (h : em 1 a b) : uN a % (8 * s) = uN b % (8 * s) := by
  rcases hs with rfl | rfl | rfl
  · exact low_mod (j := 4) (by omega) (fun i hi => h i (by omega))
  · exact low_mod (j := 5) (by omega) (fun i hi => h i (by omega))
  · exact low_mod (j := 6) (by omega) (fun i hi => h i (by omega))
theorem em_sx (v : Int64) {n : Nat} (h1 : 1 ≤ n) (h8 : n ≤ 8) : em 1 (sx v n) v := fun i hi => by rw [tb_sx v h1 h8 i (by omega), if_pos (by omega)]
theorem PR_6 {o : Int32} {k0 k m : z_Sg} (h : PR o k0 k m) (x : Int64) : PR o k0 k (z_sL m 6 x) := by
  obtain ⟨⟨e1, e2, e3, e4⟩, h5, hk, ho, hf, hb⟩ := h
  exact ⟨⟨EQn_k e1 (Lk := []) (Ik := []) (Mk := []) (Nk := []) (Lm := [6]) (Im := []) (Mm := []) (Nm := []) fr_0 (fr_sL fr_0 (by decide)) (by decide) (by decide) (by decide) (by decide) (by decide) (by decide) (by decide), e2, e3, e4⟩, h5, hk, ho, hf, hb⟩
theorem open_b {β : Type} {o : Int32} {k0 k m : z_Sg} (h : PO o k0 k m) {how : Int32} (hh : how = 0 ∨ how = 1) {n : Nat} (h1 : 1 ≤ n) (hn : n ≤ 8) (hb : f_Op_bytesOfE k = some (nI n)) (ho1 : ¬ o = 141) (ho2 : ¬ o = 143) (hw : f_Op_isWritten (z_sI k 15 (nI n)) = some how) {d : Int64} (hd : f_Op_bitDistance (z_sI k 15 (nI n)) = some d) {l : Int64 × z_Sg → Option (Sum z_Dd β)} {Q : z_Sg → β → Prop} (ha : ∀ k' m' v, PR o k0 k' m' → ME n k' m' → f_Op_value k' = some v → v &&& mk n = v → fr [] [15, 16] [2] [] k k' → fr [6] [1] [3] [] m m' → z_r k0 (k_Co_step_21 (-1) k') (l (v, m')) Q) : z_r k0 ((f_Op_open k).bind S2) (z_eb (e_f_Mo_e (nI n) how (z_sL m 6 (z_gL m 6 + d))) l) Q := by
  obtain ⟨hp, hM, hP, hon⟩ := h
  have fk0 : fr [] [15] [] [] k (z_sI k 15 (nI n)) := fr_sI fr_0 (by decide)
  have fm0 : fr [6] [] [] [] m (z_sL m 6 (z_gL m 6 + d)) := fr_sL fr_0 (by decide)
  have hp' : PR o k0 (z_sI k 15 (nI n)) (z_sL m 6 (z_gL m 6 + d)) := PR_6 (PR_15 hp (nI n)) _
  have hM' : MR (z_sI k 15 (nI n)) (z_sL m 6 (z_gL m 6 + d)) := hM
  unfold e_f_Mo_e
  by_cases c3 : z_gI k 12 = 3
  · rw [if_pos ((MR_3 hM').mp c3)]
    obtain ⟨v, e, v1, v2, v3, v4⟩ := val_3 hp'.1.1 hM' rfl h1 hn c3
    rw [v2, po_bs2, v3, po_bs2, eb_s]
    refine open_3 c3 (fun a hba => ?_)
    rw [hb] at hba
    cases hba
    exact ha _ _ v hp' ⟨hM', rfl, Or.inl c3⟩ v1 v4 (fr_w fk0 (by decide) (by decide) (by decide) (by decide)) (fr_w fm0 (by decide) (by decide) (by decide) (by decide))
  · rw [if_neg (fun x => c3 ((MR_3 hM').mpr x))]
    have hP' : PLr (z_sI k 15 (nI n)) m := by
      rcases PLr_fr hP fk0 (fr_0 (Ls := []) (Is := []) (Ms := []) (Ns := [])) (by decide) (by decide) (by decide) (by decide) with x | x
      · exact absurd x c3
      · exact x
    obtain ⟨p, p1, _⟩ := place_0 hP' (fun i hi => EQn_r hp'.1.1 hi) hon
    have hP2 : PLr (z_sL (z_sI k 15 (nI n)) 8 (z_gL (z_sI k 15 (nI n)) 8 + d)) (z_sL m 6 (z_gL m 6 + d)) := by
      refine ⟨PLb_fr hP'.1 rfl rfl rfl rfl rfl rfl rfl, ?_⟩
      show z_gL (z_sI k 15 (nI n)) 8 + d = z_gL m 6 + d
      rw [hP'.2]
    obtain ⟨p', p3, p2⟩ := place_0 hP2 (fun i hi => EQn_r hp'.1.1 hi) hon
    have := plc_add p1 d
    rw [p3] at this
    cases this
    rw [p2, po_bs2, eb_bind]
    refine r_pM (R := fun _ => True) (fun _ _ => trivial) (fun st _ => ?_)
    rw [eb_eb]
    unfold f_Op_open
    rw [hb, po_bs2, po_nm2, if_neg (show ¬ z_gI (z_sI k 15 (nI n)) 12 = 3 from c3), if_neg (show ¬ z_gI (z_sI k 15 (nI n)) 11 = 141 from fun x => ho1 (hp.2.2.2.1.symm.trans x)), if_neg (show ¬ z_gI (z_sI k 15 (nI n)) 11 = 143 from fun x => ho2 (hp.2.2.2.1.symm.trans x)), p1, po_bs2, hd, po_bs2, hw, po_bs2, Option.bind_assoc]
    refine open_at hp' hh hn rfl _ (fun o f c g1 g2 => S2_no _ f c g1 g2) (fun k' m' q1 q2 q3 q4 q5 => ?_)
    have hM2 : MR k' m' := MR_fr hM' q2 q3 (by decide) (by decide)
    have c3' : ¬ z_gI k' 12 = 3 := by rw [fr_I q2 12 (by decide)]; exact c3
    obtain ⟨v, v1, v2, v3⟩ := val_m q1.1.1 q1.2.1 hn c3' q4 q5
    rw [v2, po_bs2, eb_bind]
    show z_r k0 (k_Co_step_21 (-1) k') (l (v, m')) Q
    refine ha k' m' v q1 ⟨hM2, ?_, Or.inr ⟨q4, q5⟩⟩ v1 v3 (fr_t (fr_w fk0 (by decide) (by decide) (by decide) (by decide)) (fr_w q2 (by decide) (by decide) (by decide) (by decide))) (fr_t (fr_w fm0 (by decide) (by decide) (by decide) (by decide)) (fr_w q3 (by decide) (by decide) (by decide) (by decide)))
    rw [fr_I q2 15 (by decide)]; rfl
theorem t_32 {t : Nat} (h : t < 64) : (lN t).toInt32 = nI t := by
  have : ∀ t, t < 64 → (lN t).toInt32 = nI t := by decide +kernel
  exact this t h
theorem e_141 (s j t : Nat) (hj : j < 4) (m : z_Sg) : e_k_Mo_bit_141 (nI s) (nI j) (nI t) m = e_k_Mo_bit_153 (nI s) (nI j) (nI t) (nI s) (if j = 0 then 0 else 1) m := by
  unfold e_k_Mo_bit_141
  have := (nI_r8 (show j < 8 by omega)).1
  by_cases c : j = 0
  · rw [if_pos (this.mpr c), if_pos c]
  · rw [if_neg (fun z => c (this.mp z)), if_neg c]
theorem g_bit {k0 k m : z_Sg} {n : Nat} (hc : n = 419 ∨ n = 427 ∨ n = 435 ∨ n = 443) (h : TQ (nI n) k0 k m) : z_r k0 ((k_De_decode_43 (-1) 2 k).bind S1) (e_f_Mo_bit (nI (n - 256)) m) FQQ := by
  have gen : ∀ n, n = 419 ∨ n = 427 ∨ n = 435 ∨ n = 443 → n < 512 ∧ 256 ≤ n ∧ tmE n = true ∧ flE n = true ∧ twE n = true ∧ be2E n = true ∧ ¬ n / 16 = 25 ∧ ¬ n / 8 = 57 ∧ ¬ nI (n - 256) = 186 ∧ (nI (n - 256) - 163) / 8 = nI ((n - 419) / 8) ∧ ((nI (n - 256) >>> ((3 : Int32) &&& 31)) &&& (3 : Int32)) = nI ((n - 419) / 8) ∧ (n - 419) / 8 < 4 ∧ ¬ nI n = 141 ∧ ¬ nI n = 143 ∧ ¬ nI n = 246 ∧ ¬ nI n = 247 := by
    rintro n (rfl | rfl | rfl | rfl) <;> decide
  obtain ⟨n1, n2, n3, n4, n5, n6, n7, n8, n9, n10, n11, n12, n13, n14, n15, n16⟩ := gen n hc
  have hz := szV_8 (z_gI m 10) (z_gI m 16)
  have hs := szV_in (z_gI m 10) (z_gI m 16)
  obtain ⟨x6, x5⟩ := TQ_x h
  generalize hsz : szV (z_gI m 10) (z_gI m 16) = s at *
  unfold e_f_Mo_bit
  rw [M_wide, po_bs2, hsz]
  refine dec_mm h (by decide) (tis (Or.inr (by decide)) (by rw [TQ_o h]; exact o_bs n1 n8)) (by decide) (fun k1 m1 h1 hM e6 e5 _ => ?_)
  rw [if_neg n9]
  refine told (tm_1 n1 n3 (TQ_o h1)) ?_
  unfold e_k_Mo_bit_30
  refine dec_mp h1 hM (fun k2 m2 hp g6 g5 g13 g8 => ?_)
  rw [if_neg n9]
  refine dec_90 (P9_g hp (z_gL m2 0 + (z_gI m2 6).toInt64)) rfl (bn_0 (by decide) (by rw [TQ_o hp.1]; exact n15) (by rw [TQ_o hp.1]; exact n16)) (fun k3 hq _ i6 i5 _ => ?_)
  obtain ⟨gv, y1, y2, y3⟩ := g_r hq.1.1.1 hq.2.1 hz.1 hz.2
  have y2' : f_Mo_g (nI s) m2 = some gv := y2
  rw [y2', po_bs2, M_extended gv hz.1 hz.2, po_bs2]
  unfold e_k_Mo_bit_58 e_k_Mo_bit_97
  rw [po_nm2, if_neg n9, fm_ok hs, po_bs2, po_nm2, if_neg n9, n10]
  have hb : f_Op_bytesOfE k3 = some (nI s) := by
    rw [be_2 n2 n1 n6 hq.1.2.2.2.1, if_neg n7, i6, i5, g6, g5, e6, e5, x6, x5, hsz]
  obtain ⟨d, d1, d2⟩ := fd_ok hs (sx gv s) (z_sI k3 15 (nI s)) (z_sL m2 7 (z_gL m2 0 + (z_gI m2 6).toInt64))
  rw [d2, po_bs2, po_nm2]
  have t64 : uN (sx gv s) % (8 * s) < 64 := by
    have := Nat.mod_lt (uN (sx gv s)) (show 0 < 8 * s by omega)
    omega
  rw [t_32 t64, e_141 s _ _ n12, Int64.mul_comm]
  unfold e_k_Mo_bit_153
  have y1' : f_Op_g (nI s) (z_sI k3 15 (nI s)) = some gv := y1
  have hd : f_Op_bitDistance (z_sI k3 15 (nI s)) = some (d * (nI s).toInt64) := by
    have e : f_Op_bitDistance (z_sI k3 15 (nI s)) = k_Op_bitDistance_48 (z_sI k3 15 (nI s)) := by
      have ho : z_gI (z_sI k3 15 (nI s)) 11 = nI n := hq.1.2.2.2.1
      unfold f_Op_bitDistance
      rw [ho]
      rcases hc with rfl | rfl | rfl | rfl <;> rfl
    rw [e]
    unfold k_Op_bitDistance_48
    rw [show z_gI (z_sI k3 15 (nI s)) 15 = nI s from rfl, y1', po_bs2, K_signed gv hz.1 hz.2, po_bs2, d1, po_bs2]
  have hw : f_Op_isWritten (z_sI k3 15 (nI s)) = some (if (n - 419) / 8 = 0 then 0 else 1) := by
    have ho : z_gI (z_sI k3 15 (nI s)) 11 = nI n := hq.1.2.2.2.1
    unfold f_Op_isWritten
    rw [ho]
    rcases hc with rfl | rfl | rfl | rfl <;> rfl
  refine open_b hq (by by_cases c : (n - 419) / 8 = 0 <;> simp [c]) hz.1 hz.2 hb n13 n14 hw hd (fun k4 m4 v q1 q2 q3 q4 q5 q6 => ?_)
  have o4 : z_gI k4 11 = nI n := q1.2.2.2.1
  refine ex_2 n2 n1 n4 o4 ?_
  rw [tw_s n1 n2 n5 o4]
  have ee : f_Tw_executeSingle (nI (n - 256)) k4 = (f_De_sizeV k4).bind (fun r1 => k_Tw_executeSingle_148 (nI (n - 256)) r1 k4) := by
    rcases hc with rfl | rfl | rfl | rfl <;> rfl
  have s4 : f_De_sizeV k4 = some (nI s) := by
    rw [K_sizeV, fr_I q5 6 (by decide), fr_I q5 5 (by decide), i6, i5, g6, g5, e6, e5, x6, x5, hsz]
  obtain ⟨gv', u1, u2, u3⟩ := g_r (EQn_k hq.1.1.1 q5 (fr_0 (Ls := []) (Is := []) (Ms := []) (Ns := [])) (by decide) (by decide) (by decide) (by decide) (by decide) (by decide) (by decide)) (MR_fr hq.2.1 q5 (fr_0 (Ls := []) (Is := []) (Ms := []) (Ns := [])) (by decide) (by decide)) hz.1 hz.2
  have egv : gv' = gv := by
    rw [u2] at y2
    exact Option.some.inj y2
  rw [ee, s4, po_bs2]
  unfold k_Tw_executeSingle_148
  rw [u1, po_bs2, n11, egv]
  rw [show (fun r6 => k_Tw_executeSingle_320 r6) = k_Tw_executeSingle_320 from rfl]
  exact bit_use q1.1 q1.2.1 hs q2 q3 (em_mod hs (em_sx gv hz.1 hz.2)) n12
theorem g_bitn {k0 k m : z_Sg} (h : TQ (nI 442) k0 k m) : z_r k0 ((k_De_decode_43 (-1) 10 k).bind S1) (e_f_Mo_bit 186 m) FQQ := by
  have hz := szV_8 (z_gI m 10) (z_gI m 16)
  have hs := szV_in (z_gI m 10) (z_gI m 16)
  obtain ⟨x6, x5⟩ := TQ_x h
  generalize hsz : szV (z_gI m 10) (z_gI m 16) = s at *
  unfold e_f_Mo_bit
  rw [M_wide, po_bs2, hsz]
  refine dec_mm h (by decide) (tis (Or.inr (by decide)) (by rw [TQ_o h]; exact o_bs (by decide) (by decide))) (by decide) (fun k1 m1 h1 hM e6 e5 _ => ?_)
  rw [if_pos rfl]
  obtain ⟨r, hr, r1, r2⟩ := MR_reg hM
  have et : f_De_isToldWithModrm k1 = if z_gI k1 13 < 4 then some 0 else some 1 := by
    unfold f_De_isToldWithModrm
    rw [TQ_o h1]; rfl
  have r4 : ∀ r, r < 8 → ((4 : Int32) ≤ nI r ↔ 4 ≤ r) ∧ (nI r < 4 ↔ r < 4) ∧ (4 ≤ r → nI r - 4 = nI (r - 4) ∧ (nI r &&& 3) = nI (r - 4)) ∧ (nI r = 4 ↔ r = 4) := by decide +kernel
  obtain ⟨a1, a2, a3, a4⟩ := r4 r hr
  by_cases c : 4 ≤ r
  · rw [if_pos (by rw [r2]; exact a1.mpr c)]
    refine told (by rw [et, if_neg (by rw [r1]; exact fun z => by have := a2.mp z; omega)]) ?_
    unfold e_k_Mo_bit_30
    refine dec_mp h1 hM (fun k2 m2 hp g6 g5 g13 g8 => ?_)
    rw [if_pos rfl]
    refine dec_9f hp (bn_1 (by decide)) (fun k3 b hq h9 hy i6 i5 i13 i8 => ?_)
    unfold e_k_Mo_bit_58 e_k_Mo_bit_97
    rw [po_nm2, if_pos rfl, fm_ok hs, po_bs2, po_nm2, if_pos rfl]
    have e8 : z_gI (z_sL b.2 7 (z_gL b.2 0 + (z_gI b.2 6).toInt64)) 8 = nI r := by
      show z_gI b.2 8 = _
      rw [i8, g8, r2]
    have t64 : uN b.1.toInt64 % (8 * s) < 64 := by
      have := Nat.mod_lt (uN b.1.toInt64) (show 0 < 8 * s by omega)
      omega
    rw [e8, (a3 c).1, t_32 t64, e_141 s _ _ (by omega)]
    unfold e_k_Mo_bit_153
    have hb : f_Op_bytesOfE k3 = some (nI s) := by
      rw [be_2 (n := 442) (by decide) (by decide) (by decide) hq.1.2.2.2.1, if_neg (by decide), i6, i5, g6, g5, e6, e5, x6, x5, hsz]
    refine run_e (n := 442) (by decide) (by decide) hq (how := if r - 4 = 0 then 0 else 1) (by by_cases c : r - 4 = 0 <;> simp [c]) hz.1 hz.2 hb (fun k' e e13 => ?_) (fun k4 m4 v q1 q2 q3 q4 q5 q6 q7 q8 q9 q10 => ?_)
    · have e : f_Op_isWritten k' = if z_gI k' 13 = 4 then some 0 else some 1 := by
        unfold f_Op_isWritten
        rw [e]; rfl
      rw [e, e13, i13, g13, r1]
      by_cases c4 : r = 4
      · rw [if_pos (a4.mpr c4), if_pos (by omega)]
      · rw [if_neg (fun z => c4 (a4.mp z)), if_neg (by omega)]
    · refine ex_2 (n := 442) (by decide) (by decide) (by decide) q5 ?_
      rw [tw_s (n := 442) (by decide) (by decide) (by decide) q5]
      have ee : f_Tw_executeSingle (nI (442 - 256)) k4 = (f_De_sizeV k4).bind (fun r1 => (f_Tw_useBit ((z_gI k4 13) &&& (3 : Int32)) (z_gL k4 9) k4).bind (fun r37 => k_Tw_executeSingle_320 r37)) := rfl
      rw [ee, K_sizeV, po_bs2, q8, i13, g13, r1, (a3 c).2, q9, h9]
      rw [show (fun r6 => k_Tw_executeSingle_320 r6) = k_Tw_executeSingle_320 from rfl]
      refine bit_use q1.1 q1.2.1 hs q2 q3 (em_mod hs ?_) (by omega)
      exact em_s (em_sx _ (by omega) (by omega))
  · rw [if_neg (by rw [r2]; exact fun z => c (a1.mp z))]
    exact untold (by rw [et, if_pos (by rw [r1]; exact a2.mpr (by omega))]) h1.2.1 h1.1
