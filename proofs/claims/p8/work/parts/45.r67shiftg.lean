theorem EQ_FV {k m k' m' : z_Sg} (h : EQ k m) (hF : FV k m k' m') : EQ k' m' := by
  obtain ⟨e1, e2, e3, e4⟩ := h
  obtain ⟨f1, f2, f3⟩ := hF
  refine ⟨EQn_k e1 f1 f2 (by decide) (by decide) (by decide) (by decide) (by decide) (by decide) (by decide), f3, ?_, ?_⟩
  · rw [fr_I f1 2 (by decide), fr_I f2 2 (by decide)]; exact e3
  · rw [fr_L f1 10 (by decide), fr_L f2 7 (by decide)]; exact e4
theorem sh_use {o : Int32} {k0 k m : z_Sg} {s r c : Nat} {v : Int64} {cK : Int32} (hP : PR o k0 k m) (hM : ME s k m) (hv : f_Op_value k = some v) (hvm : v &&& mk s = v) (hs : s = 1 ∨ s = 2 ∨ s = 4 ∨ s = 8) (hr : r < 8) (h6 : ¬ r = 6) (k13 : z_gI k 13 = nI r) (m8 : z_gI m 8 = nI r) (hcK : f_On_countOfShift k = some cK) (hk : cK &&& (if s = 8 then 63 else 31) = nI c) (hc : c < 64) (hc32 : ¬ s = 8 → c < 32) : z_r k0 (((k_On_executeSingle_266 (nI s) k).bind k_On_execute_223).bind S3) (if nI c ≤ 0 then ((k_Mo_shift_148 (nI s) v m).bind (fun o => some (.inr o))) else (if (4 : Int32) ≤ (z_gI m 8) then ((f_Mo_shifted v (nI c) (nI s) m).bind (fun r16 => ((k_Mo_shift_146 (nI s) r16.1 r16.2).bind (fun o => some (.inr o))))) else ((f_Mo_rotated v (nI c) (nI s) m).bind (fun r17 => ((k_Mo_shift_146 (nI s) r17.1 r17.2).bind (fun o => some (.inr o))))))) FQQ := by
  have h1 : 1 ≤ s := by omega
  have h8 : s ≤ 8 := by omega
  have fin' : ∀ V k' m', EQ k' m' → z_gI m' 5 = 0 → ME s k' m' → z_r k0 ((((f_Op_put V k').bind (fun r19 => k_On_executeSingle_432 r19)).bind k_On_execute_223).bind S3) ((k_Mo_shift_148 (nI s) V m').bind (fun o => some (.inr o))) FQQ := by
    intro V k' m' hE h5 hM'
    obtain ⟨k5, m5, w1, w2, w3, _⟩ := wE hE h5 hM' h1 h8 (em_r _ V)
    unfold k_Mo_shift_148
    rw [w1, w2, po_bs2]
    exact fin1 w3
  have s8 : (nI s = 8) ↔ s = 8 := (nI_cm (show s ≤ 65 by omega) (show 8 ≤ 65 by omega)).2.1
  have e16 : f_Ar_shift (nI r) v cK (nI s) k = k_Ar_shift_16 (nI r) v (nI s) cK (if s = 8 then 63 else 31) k := by
    unfold f_Ar_shift
    by_cases a : s = 8
    · rw [if_pos (s8.mpr a), if_pos a]
    · rw [if_neg (fun z => a (s8.mp z)), if_neg a]
  have z0 : (nI c = 0) ↔ c = 0 := (nI_cm (show c ≤ 65 by omega) (show 0 ≤ 65 by omega)).2.1
  have le0 : (nI c ≤ 0) ↔ c ≤ 0 := (nI_cm (show c ≤ 65 by omega) (show 0 ≤ 65 by omega)).1
  have le4 : ((4 : Int32) ≤ nI r) ↔ 4 ≤ r := (nI_cm (show 4 ≤ 65 by omega) (show r ≤ 65 by omega)).1
  unfold k_On_executeSingle_266
  rw [hv, po_bs2, hcK, po_bs2, k13, e16]
  by_cases c0 : c = 0
  · rw [if_pos (show nI c ≤ 0 from le0.mpr (by omega))]
    unfold k_Ar_shift_16
    rw [po_nm2, hk, if_pos (z0.mpr c0), po_bs2]
    exact fin' v k m hP.1 hP.2.1 hM
  · rw [if_neg (show ¬ nI c ≤ 0 from fun z => c0 (by have := le0.mp z; omega)), m8]
    have both : ∃ V k' m', k_Ar_shift_16 (nI r) v (nI s) cK (if s = 8 then 63 else 31) k = some (V, k') ∧ (if 4 ≤ r then f_Mo_shifted v (nI c) (nI s) m else f_Mo_rotated v (nI c) (nI s) m) = some (V, m') ∧ FV k m k' m' := by
      have hf := hP.1.2.1
      have hu := EQn_L hP.1.1 (show 4 < 6 by decide)
      unfold k_Ar_shift_16
      rw [po_nm2, hk, if_neg (fun z => c0 (z0.mp z))]
      by_cases r4 : 4 ≤ r
      · rw [if_pos r4]
        have hr3 : r = 4 ∨ r = 5 ∨ r = 7 := by omega
        obtain ⟨V, k', m', a1, a2, a3⟩ := sh_r hf hu hc (by omega) h1 h8 hvm hr3 m8
        refine ⟨V, k', m', ?_, a2, a3⟩
        rcases hr3 with rfl | rfl | rfl
        · have e : f_Ar_shiftLeft v (nI c) (nI s) k = some (V, k') := a1
          show (f_Ar_shiftLeft v (nI c) (nI s) k).bind _ = _
          rw [e]; rfl
        · have e : f_Ar_shiftRight v (nI c) (nI s) k = some (V, k') := a1
          show (f_Ar_shiftRight v (nI c) (nI s) k).bind _ = _
          rw [e]; rfl
        · have e : f_Ar_shiftSigned v (nI c) (nI s) k = some (V, k') := a1
          show (f_Ar_shiftSigned v (nI c) (nI s) k).bind _ = _
          rw [e]; rfl
      · rw [if_neg r4]
        obtain ⟨V, k', m', a1, a2, a3⟩ := rot_r hf hu hP.2.2.2.2.1 hc hc32 hs hvm (by omega) m8
        refine ⟨V, k', m', ?_, a2, a3⟩
        have hr4 : r = 0 ∨ r = 1 ∨ r = 2 ∨ r = 3 := by omega
        rcases hr4 with rfl | rfl | rfl | rfl
        · have e : f_Ar_rotate 1 v (nI c) (nI s) k = some (V, k') := a1
          show (f_Ar_rotate 1 v (nI c) (nI s) k).bind _ = _
          rw [e]; rfl
        · have e : f_Ar_rotate 0 v (nI c) (nI s) k = some (V, k') := a1
          show (f_Ar_rotate 0 v (nI c) (nI s) k).bind _ = _
          rw [e]; rfl
        · have e : f_Ar_rotateThroughCarry 1 v (nI c) (nI s) k = some (V, k') := a1
          show (f_Ar_rotateThroughCarry 1 v (nI c) (nI s) k).bind _ = _
          rw [e]; rfl
        · have e : f_Ar_rotateThroughCarry 0 v (nI c) (nI s) k = some (V, k') := a1
          show (f_Ar_rotateThroughCarry 0 v (nI c) (nI s) k).bind _ = _
          rw [e]; rfl
    obtain ⟨V, k', m', b1, b2, b3⟩ := both
    have res := fin' V k' m' (EQ_FV hP.1 b3) (by rw [fr_I b3.2.1 5 (by decide)]; exact hP.2.1) (ME_fr hM b3.1 b3.2.1 (by decide) (by decide) (by decide) (by decide))
    rw [b1, po_bs2]
    by_cases r4 : 4 ≤ r
    · rw [if_pos (le4.mpr r4)]
      rw [if_pos r4] at b2
      rw [b2, po_bs2]
      exact res
    · rw [if_neg (fun z => r4 (le4.mp z))]
      rw [if_neg r4] at b2
      rw [b2, po_bs2]
      exact res
theorem low_I (X : Int64) {j : Nat} (hj : j ≤ 31) : X.toInt32 &&& nI (2 ^ j - 1) = nI (uN X % 2 ^ j) := by
  refine tI_ext (fun i hi => ?_)
  have t : (uN X).testBit i = tb X i := by
    have := tb_N (uN X) i
    rw [uN_l] at this
    rw [this, decide_eq_true (show i < 64 by omega), Bool.true_and]
  rw [tI_and, tI_l2i, tI_msk i (by omega), tI_N, Nat.testBit_mod_two_pow, t, decide_eq_true hi]
  cases tb X i <;> simp
theorem c_K (X : Int64) (s : Nat) : X.toInt32 &&& (if s = 8 then 63 else 31) = nI (uN X % (if s = 8 then 64 else 32)) := by
  by_cases c : s = 8
  · rw [if_pos c, if_pos c]; exact low_I X (j := 6) (by decide)
  · rw [if_neg c, if_neg c]; exact low_I X (j := 5) (by decide)
theorem md_b {t : Nat} (ht : t < 256) (s : Nat) : nI t - nI t / (if s = 8 then 64 else 32) * (if s = 8 then 64 else 32) = nI (t % (if s = 8 then 64 else 32)) := by
  have : ∀ t, t < 256 → nI t - nI t / 64 * 64 = nI (t % 64) ∧ nI t - nI t / 32 * 32 = nI (t % 32) := by decide +kernel
  by_cases c : s = 8
  · rw [if_pos c, if_pos c]; exact (this t ht).1
  · rw [if_neg c, if_neg c]; exact (this t ht).2
theorem ct_lt (u s : Nat) : u % (if s = 8 then 64 else 32) < 64 ∧ (¬ s = 8 → u % (if s = 8 then 64 else 32) < 32) := by
  by_cases c : s = 8
  · rw [if_pos c]; exact ⟨Nat.mod_lt _ (by decide), fun z => absurd c z⟩
  · rw [if_neg c]; exact ⟨by have := Nat.mod_lt u (show 0 < 32 by decide); omega, fun _ => Nat.mod_lt _ (by decide)⟩
theorem c_M (X : Int64) : (X &&& 255).toInt32 = nI (uN X % 256) := by
  have e : (X &&& 255).toInt32 = X.toInt32 &&& nI (2 ^ 8 - 1) := by
    refine tI_ext (fun i hi => ?_)
    rw [tI_l2i, tb_and, tI_and, tI_l2i, tb_255, tI_msk i (by decide)]
    simp [Bool.and_assoc]
  rw [e]; exact low_I X (j := 8) (by decide)
theorem m_m (u s : Nat) : u % 256 % (if s = 8 then 64 else 32) = u % (if s = 8 then 64 else 32) := by
  by_cases c : s = 8
  · rw [if_pos c]; omega
  · rw [if_neg c]; omega
theorem szO_4 (n : Nat) (rex small : Int32) : szO n rex small = 1 ∨ szO n rex small = 2 ∨ szO n rex small = 4 ∨ szO n rex small = 8 := by
  unfold szO
  have := szV_in rex small
  split <;> omega
theorem e_59 (s : Nat) (h8 : s ≤ 8) {t : Nat} (ht : t < 256) (q : z_Sg) : e_k_Mo_shift_59 (nI s) (nI t) q = (z_eb (e_f_Mo_e (nI s) (1 : Int32) (z_sL q 7 ((z_gL q 0) + (z_gI q 6).toInt64))) (fun r11 => (if nI (t % (if s = 8 then 64 else 32)) ≤ 0 then ((k_Mo_shift_148 (nI s) r11.1 r11.2).bind (fun o => some (.inr o))) else (if (4 : Int32) ≤ (z_gI r11.2 8) then ((f_Mo_shifted r11.1 (nI (t % (if s = 8 then 64 else 32))) (nI s) r11.2).bind (fun r16 => ((k_Mo_shift_146 (nI s) r16.1 r16.2).bind (fun o => some (.inr o))))) else ((f_Mo_rotated r11.1 (nI (t % (if s = 8 then 64 else 32))) (nI s) r11.2).bind (fun r17 => ((k_Mo_shift_146 (nI s) r17.1 r17.2).bind (fun o => some (.inr o))))))))) := by
  have s8 : (nI s = 8) ↔ s = 8 := (nI_cm (show s ≤ 65 by omega) (show 8 ≤ 65 by omega)).2.1
  have e : e_k_Mo_shift_59 (nI s) (nI t) q = e_k_Mo_shift_88 (nI s) (nI t) (if s = 8 then 64 else 32) (z_sL q 7 ((z_gL q 0) + (z_gI q 6).toInt64)) := by
    unfold e_k_Mo_shift_59
    rw [po_nm2]
    by_cases a : s = 8
    · rw [if_pos (s8.mpr a), if_pos a]
    · rw [if_neg (fun z => a (s8.mp z)), if_neg a]
  rw [e]
  unfold e_k_Mo_shift_88
  rw [if_neg (show ¬ (if s = 8 then (64 : Int32) else 32) = 0 by split <;> decide), po_nm2, md_b ht s]
theorem g_shift {k0 k m : z_Sg} {n : Nat} (hc : n = 192 ∨ n = 193 ∨ n = 208 ∨ n = 209 ∨ n = 210 ∨ n = 211) (h : TQ (nI n) k0 k m) : z_r k0 ((k_De_decode_43 (-1) (nI (foT n)) k).bind S1) (e_f_Mo_shift (nI n) (nI (szO n (z_gI m 10) (z_gI m 16))) m) FQQ := by
  have gen : ∀ n, n = 192 ∨ n = 193 ∨ n = 208 ∨ n = 209 ∨ n = 210 ∨ n = 211 → n < 256 ∧ eE n = true ∧ flE n = true ∧ srE n = true ∧ onE n = true ∧ (¬ nI (foT n) = 0 ∧ (nI (foT n) &&& (4 : Int32)) = 0 ∧ ¬ (nI (foT n) &&& (2 : Int32)) = 0) ∧ ¬ n / 8 = 57 ∧ ((208 : Int32) ≤ nI n ↔ 208 ≤ n) ∧ ((210 : Int32) ≤ nI n ↔ 210 ≤ n) ∧ ¬ nI n = 246 ∧ ¬ nI n = 247 ∧ (208 ≤ n → foT n = 2) ∧ (n < 208 → foT n = 10) := by
    rintro n (rfl | rfl | rfl | rfl | rfl | rfl) <;> decide
  obtain ⟨n1, n4, n5, n6, n7, ⟨t1, t2, t3⟩, n8, n9, n10, n11, n12, n13, n14⟩ := gen n hc
  obtain ⟨s1, s8⟩ := szO_in n (z_gI m 10) (z_gI m 16)
  have hs := szO_4 n (z_gI m 10) (z_gI m 16)
  obtain ⟨x6, x5⟩ := TQ_x h
  generalize hsz : szO n (z_gI m 10) (z_gI m 16) = s at *
  unfold e_f_Mo_shift
  refine dec_mm h t1 (tis (Or.inr t2) (by rw [TQ_o h]; exact o_bs (by omega) n8)) t3 (fun k1 m1 h1 hM e6 e5 _ => ?_)
  obtain ⟨r, hr, r1, r2⟩ := MR_reg hM
  have et : f_De_isToldWithModrm k1 = if z_gI k1 13 = 6 then some 0 else some 1 := by
    rcases hc with rfl | rfl | rfl | rfl | rfl | rfl <;> (unfold f_De_isToldWithModrm; rw [TQ_o h1]; rfl)
  have r6 := (nI_r8 hr).2.2.2.2.2.2.1
  by_cases c6 : r = 6
  · rw [if_pos (by rw [r2]; exact r6.mpr c6)]
    exact untold (by rw [et, if_pos (by rw [r1]; exact r6.mpr c6)]) h1.2.1 h1.1
  · rw [if_neg (by rw [r2]; exact fun z => c6 (r6.mp z))]
    refine told (by rw [et, if_neg (by rw [r1]; exact fun z => c6 (r6.mp z))]) ?_
    unfold e_k_Mo_shift_19
    refine dec_mp h1 hM (fun k2 m2 hp g6 g5 g13 g8 => ?_)
    have tail : ∀ (k3 m3 : z_Sg) (t : Nat) (ht : t < 256), PO (nI n) k0 k3 m3 → z_gI k3 6 = z_gI k2 6 → z_gI k3 5 = z_gI k2 5 → z_gI k3 13 = z_gI k2 13 → z_gI m3 8 = z_gI m2 8 → (∀ k4, z_gI k4 11 = nI n → z_gL k4 9 = z_gL k3 9 → z_gM k4 0 1 = z_gM k3 0 1 → ∃ cK, f_On_countOfShift k4 = some cK ∧ cK &&& (if s = 8 then 63 else 31) = nI (t % (if s = 8 then 64 else 32))) → z_r k0 ((f_Op_open k3).bind S2) (z_eb (e_f_Mo_e (nI s) (1 : Int32) m3) (fun r11 => (if nI (t % (if s = 8 then 64 else 32)) ≤ 0 then ((k_Mo_shift_148 (nI s) r11.1 r11.2).bind (fun o => some (.inr o))) else (if (4 : Int32) ≤ (z_gI r11.2 8) then ((f_Mo_shifted r11.1 (nI (t % (if s = 8 then 64 else 32))) (nI s) r11.2).bind (fun r16 => ((k_Mo_shift_146 (nI s) r16.1 r16.2).bind (fun o => some (.inr o))))) else ((f_Mo_rotated r11.1 (nI (t % (if s = 8 then 64 else 32))) (nI s) r11.2).bind (fun r17 => ((k_Mo_shift_146 (nI s) r17.1 r17.2).bind (fun o => some (.inr o))))))))) FQQ := by
      intro k3 m3 t ht hq i6 i5 i13 i8 hcnt
      have hb : f_Op_bytesOfE k3 = some (nI s) := by
        rw [be_1 n1 (by omega) hq.1.2.2.2.1, i6, i5, g6, g5, e6, e5, x6, x5, hsz]
      refine open_e hq (Or.inr rfl) s1 s8 hb (by rcases hc with rfl | rfl | rfl | rfl | rfl | rfl <;> decide) (by rcases hc with rfl | rfl | rfl | rfl | rfl | rfl <;> decide) ?_ (bd_0 (k := z_sI k3 15 (nI s)) (n := n) (by omega) (by omega) hq.1.2.2.2.1) (fun k4 m4 v q1 q2 q3 q4 q5 q6 => ?_)
      · have ho : z_gI (z_sI k3 15 (nI s)) 11 = nI n := hq.1.2.2.2.1
        rcases hc with rfl | rfl | rfl | rfl | rfl | rfl <;> (unfold f_Op_isWritten; rw [ho]; rfl)
      · have o4 : z_gI k4 11 = nI n := q1.2.2.2.1
        refine ex_1 n1 n5 n6 o4 ?_
        rw [on_215 n1 n7 o4, fr_I q5 6 (by decide), fr_I q5 5 (by decide), i6, i5, g6, g5, e6, e5, x6, x5, hsz]
        have ee : f_On_executeSingle (nI s) k4 = k_On_executeSingle_266 (nI s) k4 := by
          rcases hc with rfl | rfl | rfl | rfl | rfl | rfl <;> (unfold f_On_executeSingle; rw [o4]; rfl)
        rw [ee]
        obtain ⟨cK, c1, c2⟩ := hcnt k4 o4 (fr_L q5 9 (by decide)) (by rw [fr_M q5 0 (by decide)])
        have k13 : z_gI k4 13 = nI r := by rw [fr_I q5 13 (by decide), i13, g13, r1]
        have m8 : z_gI m4 8 = nI r := by rw [fr_I q6 8 (by decide), i8, g8, r2]
        exact sh_use q1 q2 q3 q4 hs hr c6 k13 m8 c1 c2 (ct_lt t s).1 (ct_lt t s).2
    by_cases d8 : 208 ≤ n
    · rw [if_pos (n9.mpr d8)]
      have hbn : f_De_bytesOfNumber (nI (foT n)) k2 = some 0 := by
        rw [n13 d8]
        exact bn_0 (by decide) (by rw [TQ_o hp.1]; exact n11) (by rw [TQ_o hp.1]; exact n12)
      refine dec_90 (P9_g hp (z_gL m2 0 + (z_gI m2 6).toInt64)) rfl hbn (fun k3 hq _ i6 i5 i13 => ?_)
      by_cases d10 : 210 ≤ n
      · rw [if_pos (n10.mpr d10), if_neg (show ¬ z_bad (1 : Int32) 16 by decide), show (1 : Int32).toNatClampNeg = 1 from rfl, c_M, e_59 s s8 (Nat.mod_lt _ (by decide))]
        refine tail k3 _ _ (Nat.mod_lt _ (by decide)) hq i6 i5 i13 rfl (fun k4 o4 _ r4 => ?_)
        refine ⟨(z_gM k4 0 1).toInt32, ?_, ?_⟩
        · unfold f_On_countOfShift k_On_countOfShift_49
          rw [o4, if_pos (n9.mpr d8), if_pos (n10.mpr d10), if_neg (show ¬ z_bad (1 : Int32) 16 by decide)]
          rfl
        · rw [c_K, m_m, r4, EQn_r hq.1.1.1 (show 1 < 16 by decide)]; rfl
      · rw [if_neg (fun z => d10 (n10.mp z)), show (1 : Int32) = nI 1 from rfl, e_59 s s8 (show 1 < 256 by decide)]
        refine tail k3 _ 1 (by decide) hq i6 i5 i13 rfl (fun k4 o4 _ _ => ?_)
        refine ⟨1, ?_, ?_⟩
        · unfold f_On_countOfShift k_On_countOfShift_49
          rw [o4, if_pos (n9.mpr d8), if_neg (fun z => d10 (n10.mp z))]
        · by_cases a : s = 8
          · rw [if_pos a, if_pos a]; rfl
          · rw [if_neg a, if_neg a]; rfl
    · rw [if_neg (fun z => d8 (n9.mp z))]
      have hbn : f_De_bytesOfNumber (nI (foT n)) k2 = some 1 := by
        rw [n14 (by omega)]
        exact bn_1 (by decide)
      refine dec_9f hp hbn (fun k3 b hq h9 hy i6 i5 i13 i8 => ?_)
      obtain ⟨t, ht, hbt⟩ : ∃ t, t < 256 ∧ b.1 = nI t := byte_N hy
      show z_r k0 _ (e_k_Mo_shift_59 (nI s) b.1 b.2) FQQ
      rw [hbt, e_59 s s8 ht]
      refine tail k3 _ t ht hq i6 i5 i13 i8 (fun k4 o4 l9 _ => ?_)
      refine ⟨(z_gL k4 9).toInt32, ?_, ?_⟩
      · unfold f_On_countOfShift
        rw [o4, if_neg (fun z => d8 (n9.mp z))]
      · rw [c_K, l9, h9, hbt]
        have u : uN ((nI t).toInt64) = t := by
          have : ∀ t, t < 256 → (nI t).toInt64 = lN t := by decide +kernel
          rw [this t ht, uN_N (by omega)]
        have e8 := low_mod (a := sx ((nI t).toInt64) 1) (b := (nI t).toInt64) (j := 8) (by decide) (fun i hi => em_sx _ (by decide) (by decide) i (by omega))
        rw [u] at e8
        have e9 : uN (sx ((nI t).toInt64) 1) % (if s = 8 then 64 else 32) = t % (if s = 8 then 64 else 32) := by
          rw [← m_m (uN (sx ((nI t).toInt64) 1)) s, ← m_m t s]
          exact congrArg (fun x => x % (if s = 8 then 64 else 32)) e8
        rw [e9]
