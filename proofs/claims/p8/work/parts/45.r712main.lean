theorem fw_7 {f g : Nat → Int32} (h : ∀ i, i < 7 → f i = g i) : fw f = fw g := by
  unfold fw
  rw [h 0 (by decide), h 1 (by decide), h 2 (by decide), h 3 (by decide), h 4 (by decide), h 5 (by decide), h 6 (by decide)]
theorem wd_1 {n : Nat} (hn : n < 256) {q : z_Sg} {α : Type} (g : Int32 → Option α) (N : Nat) (hN : N % 2 = n % 2) : (if (nI n &&& (1 : Int32)) = 0 then g 1 else ((f_Mo_wide q).bind (fun r34 => g r34))) = g (nI (szO N (z_gI q 10) (z_gI q 16))) := by
  have c : ∀ n, n < 256 → ((nI n &&& (1 : Int32)) = 0 ↔ n % 2 = 0) := by decide +kernel
  unfold szO
  by_cases e : n % 2 = 0
  · rw [if_pos ((c n hn).mpr e), if_pos (by omega)]; rfl
  · rw [if_neg (fun z => e ((c n hn).mp z)), if_neg (by omega), M_wide, po_bs2]
theorem step_po {k m : z_Sg} (hS : Sim k m) (hF : FB m) {oK : Int32 × z_Sg} (hK : f_Co_step k = some oK) : z_po (f_Mo_step m) (fun oM => Sim oK.2 oM.2 ∧ (oK.1 = -1 ↔ oM.1 = -1)) := by
  unfold f_Mo_step
  refine po_n (fun q1 e1 => po_n (fun q2 e2 => po_G (fun hb => po_n (fun q4 e4 => ?_))))
  have f4 : fr [] [3, 4, 5] [] [] m q4 := by
    rw [e4, e2, e1]; exact fr_sI (fr_sI (fr_sI fr_0 (by decide)) (by decide)) (by decide)
  have i4 : z_gI q4 4 = -1 := by rw [e4, e2, e1]; rfl
  have i5 : z_gI q4 5 = 0 := by rw [e4, e2]; rfl
  have i3 : z_gI q4 3 = z_gI m 2 := by rw [e4, e2, e1]; rfl
  refine M_copy0 (fun q5 f5 g5 => ?_)
  have F5 : FB q5 := by
    have e : z_gN q5 1 = z_gN m 1 := by rw [fr_N f5 1 (by decide), fr_N f4 1 (by decide)]
    intro j; rw [e]; exact hF j
  refine M_copy1 F5 (fun q6 f6 g6 => ?_)
  have f56 : fr [] [3, 4, 5] [1] [2] m q6 := fr_t (fr_w f4 (by decide) (by decide) (by decide) (by decide)) (fr_t (fr_w f5 (by decide) (by decide) (by decide) (by decide)) (fr_w f6 (by decide) (by decide) (by decide) (by decide)))
  have I4 : z_gI q6 4 = -1 := by rw [fr_I f6 4 (by decide), fr_I f5 4 (by decide)]; exact i4
  have I5 : z_gI q6 5 = 0 := by rw [fr_I f6 5 (by decide), fr_I f5 5 (by decide)]; exact i5
  have I3 : z_gI q6 3 = z_gI m 2 := by rw [fr_I f6 3 (by decide), fr_I f5 3 (by decide)]; exact i3
  have eM0 : z_gM q6 0 = z_gM m 0 := fr_M f56 0 (by decide)
  have eN0 : z_gN q6 0 = z_gN m 0 := fr_N f56 0 (by decide)
  have eN1 : z_gN q6 1 = z_gN m 1 := fr_N f56 1 (by decide)
  have eL : ∀ j, z_gL q6 j = z_gL m j := fun j => fr_L f56 j (by simp)
  have M1 : ∀ i, i < 16 → z_gM q6 1 i = z_gM m 0 i := fun i hi => by
    rw [fr_M f6 1 (by decide), g5 i hi, fr_M f4 0 (by decide)]
  have N2' : ∀ i, i < 7 → z_gN q6 2 i = z_gN m 1 i := fun i hi => by
    rw [g6 i hi, fr_N f5 1 (by decide), fr_N f4 1 (by decide)]
  have F6 : FB q6 := by intro j; rw [eN1]; exact hF j
  have S6 : Sim k q6 := by
    obtain ⟨s1, s2, s3, s4, s5, s6, s7, s8, s9, s10, s11⟩ := hS
    refine ⟨fun i hi => by rw [eM0]; exact s1 i hi, ?_, ?_, ?_, ?_, ?_, ?_, ?_, ?_, ?_, ?_⟩
    · rw [eL]; exact s2
    · rw [eL]; exact s3
    · rw [eL]; exact s4
    · rw [eL]; exact s5
    · rw [eL]; exact s6
    · rw [eL]; exact s7
    · rw [fr_I f56 0 (by decide)]; exact s8
    · rw [fr_I f56 2 (by decide)]; exact s9
    · rw [eN1]; exact s10
    · rw [eN0]; exact s11
  have back : ∀ q, z_pk q = z_pk q6 → ¬ z_gI q 4 = -1 → ¬ oK.1 = -1 → KF k oK.2 (z_gL q 5) (z_gI q 0) → z_po (k_Mo_step_156 q) (fun oM => Sim oK.2 oM.2 ∧ (oK.1 = -1 ↔ oM.1 = -1)) := by
    intro q hpk h4 hw hKF
    unfold z_pk at hpk
    simp only [Prod.mk.injEq] at hpk
    obtain ⟨⟨p0, p1, p2, p3, p4⟩, p5, p6, p7, p8⟩ := hpk
    obtain ⟨t1, t2, t3, t4, t5, t6, t7, t8, t9, t10, t11⟩ := hKF
    obtain ⟨s1, s2, s3, s4, s5, s6, s7, s8, s9, s10, s11⟩ := S6
    unfold k_Mo_step_156
    refine po_f h4 (po_G (fun _ => po_n (fun q12 e12 => ?_)))
    have f12 : fr [] [2] [] [] q q12 := by rw [e12]; exact fr_sI fr_0 (by decide)
    have i2 : z_gI q12 2 = z_gI m 2 := by
      rw [e12]
      show z_gI q 3 = _
      rw [p5, I3]
    refine po_w (M_back (q := q12) (fun i hi => by rw [fr_N f12 2 (by decide), p8, N2' i hi]; exact hF i)) (fun o ho => ?_)
    obtain ⟨h1, h2, h3, h5⟩ := ho
    have oL : ∀ j, z_gL o.2 j = z_gL q j := fun j => by rw [fr_L h2 j (by simp), fr_L f12 j (by simp)]
    refine ⟨⟨fun i hi => ?_, ?_, ?_, ?_, ?_, ?_, ?_, ?_, ?_, ?_, ?_⟩, fun z => absurd z hw, fun z => ?_⟩
    · rw [t1, h3 i hi, fr_M f12 1 (by decide), p6, M1 i hi, ← eM0]; exact s1 i hi
    · rw [t3, oL, p0]; exact s2
    · rw [t4, oL, p1]; exact s3
    · rw [t5, oL, p2]; exact s4
    · rw [t6, oL, p3]; exact s5
    · rw [t7, oL, p4]; exact s6
    · rw [t8, oL]
    · rw [t9, fr_I h2 0 (by decide), fr_I f12 0 (by decide)]
    · rw [t10, fr_I h2 2 (by decide), i2, s9, fr_I f56 2 (by decide)]
    · rw [t11, s10, eN1]
      refine fw_7 (fun i hi => ?_)
      rw [h5 i hi, fr_N f12 2 (by decide), p8, N2' i hi]
    · rw [t2, fr_N h2 0 (by decide), fr_N f12 0 (by decide), p7]; exact s11
    · rw [h1, fr_I f12 4 (by decide)] at z; exact absurd z h4
  have done : ∀ r, FQQ oK.2 r → oK.1 = -1 → z_gI r 4 = -1 → z_po (k_Mo_step_156 r) (fun oM => Sim oK.2 oM.2 ∧ (oK.1 = -1 ↔ oM.1 = -1)) := by
    intro r hQ hw h4
    obtain ⟨k', ek, hE⟩ := hQ
    obtain ⟨⟨a1, a2, a3, ⟨w, w1, w2, w3, w4⟩, a5, a6, a7, a8⟩, b1, b2, b3⟩ := hE
    unfold k_Mo_step_156
    refine po_t h4 (po_n (fun q23 e23 => ?_))
    have f23 : fr [0] [] [] [] r q23 := by rw [e23]; exact fr_sL fr_0 (by decide)
    have l0 : z_gL q23 0 = z_gL r 7 := by rw [e23]; rfl
    refine po_w (M_commit (q := q23) (w := w) w1 (by rw [fr_I f23 5 (by decide)]; exact w2) (fun j hj => by rw [fr_M f23 2 (by decide)]; exact w3 j hj)) (fun o ho => ?_)
    obtain ⟨h1, h2, h3⟩ := ho
    have oL : ∀ j, ¬ j = 0 → z_gL o.2 j = z_gL r j := fun j hj => by rw [fr_L h2 j (by simp), fr_L f23 j (by simp [hj])]
    have oI : ∀ j, z_gI o.2 j = z_gI r j := fun j => by rw [fr_I h2 j (by simp), fr_I f23 j (by simp)]
    refine ⟨?_, fun _ => h1, fun _ => hw⟩
    rw [ek]
    refine ⟨fun i hi => ?_, ?_, ?_, ?_, ?_, ?_, ?_, ?_, ?_, ?_, ?_⟩
    · rw [fr_M h2 0 (by decide), fr_M f23 0 (by decide)]; exact a1 i hi
    · show z_gL k' 10 = _
      rw [fr_L h2 0 (by simp), l0]; exact b3
    · show z_gL k' 1 = _
      rw [oL 1 (by decide)]; exact a2 1 (by decide)
    · show z_gL k' 2 = _
      rw [oL 2 (by decide)]; exact a2 2 (by decide)
    · show z_gL k' 3 = _
      rw [oL 3 (by decide)]; exact a2 3 (by decide)
    · show z_gL k' 4 = _
      rw [oL 4 (by decide)]; exact a2 4 (by decide)
    · show z_gL k' 5 = _
      rw [oL 5 (by decide)]; exact a2 5 (by decide)
    · show z_gI k' 1 = _
      rw [oI]; exact a3
    · show z_gI k' 2 = _
      rw [oI]; exact b2
    · show z_gI k' 0 = _
      rw [fr_N h2 1 (by decide), fr_N f23 1 (by decide)]; exact b1
    · intro y
      show kB (z_gM k' 1) y = _
      rw [h3 y, w4 y, fr_N f23 0 (by decide), fr_M f23 2 (by decide), fr_N f23 3 (by decide)]
  refine po_b (po_and (x_f_Mo_open q6 I4) (po_and (OP_o q6) (m_f_Mo_open q6 q6 rfl))) (fun r7 hr7 => po_n (fun q8 e8 => ?_))
  obtain ⟨hx, hop, hpk⟩ := hr7
  have f8 : fr [7] [] [] [] r7 q8 := by rw [e8]; exact fr_sL fr_0 (by decide)
  have pk8 : z_pk q8 = z_pk q6 := by rw [e8]; exact hpk
  have hz := open_rel (k0 := k) ⟨_, _, KF_self k⟩ S6 I4 I5
  have hD : f_Co_step k = ((f_De_fetchOpcode k).bind (fun r1 => if r1.1 = (-1 : Int32) then (if (256 : Int32) ≤ (z_gI r1.2 11) then ((f_De_formOfTwo ((z_gI r1.2 11) - (256 : Int32)) r1.2).bind (fun r4 => k_De_decode_43 r1.1 r4 r1.2)) else ((f_De_formOfOne (z_gI r1.2 11) r1.2).bind (fun r19 => k_De_decode_43 r1.1 r19 r1.2))) else (some (r1.1, r1.2)))).bind S1 := rfl
  rw [hD] at hK
  cases ha : f_De_fetchOpcode k with
  | none => rw [ha] at hK; cases hK
  | some a =>
    rw [ha, po_bs2] at hK
    rcases hx with ⟨h4, he⟩ | ⟨h4, he⟩
    · obtain ⟨a1, hd, n, hn, h15, hcase⟩ := (hz a (.inr r7) ha he).2 r7 rfl
      have hF7 : FB r7 := by intro j; rw [hop.1, eN1]; exact hF j
      have hKF := pK_KF (pK_o k a ha)
      rw [if_pos a1, a1] at hK
      have h48 : z_gI q8 4 = -1 := by rw [fr_I f8 4 (by decide)]; exact h4
      have hg : z_gL q8 7 = z_gL q8 0 + (z_gI q8 6).toInt64 := by rw [e8]; rfl
      have hrp : rp (z_gI q8 11) := by rw [fr_I f8 11 (by decide)]; exact hop.2
      refine po_t h48 ?_
      rw [fr_I f8 18 (by decide), fr_I f8 15 (by decide), h15]
      rcases hcase with ⟨c18, c11⟩ | ⟨c18, c11⟩
      · have hT : TQ (nI n) k a.2 q8 := by rw [e8]; exact TQ_g ⟨hd, hKF, c11, hF7⟩ _
        rw [if_pos c18, wd_1 hn (fun x => k_Mo_step_153 (nI n) x q8) n rfl]
        have lt : ∀ n, n < 256 → ¬ (256 : Int32) ≤ nI n := by decide +kernel
        rw [c11, if_neg (lt n hn), fo_n hn, po_bs2] at hK
        have ht := top1 hn hT hg hrp
        unfold k_Mo_step_153
        refine po_b (po_and (x_f_Mo_first _ _ q8 h48) (m_f_Mo_first q6 _ _ q8 pk8)) (fun r35 hr => ?_)
        obtain ⟨hx2, hpk2⟩ := hr
        rcases hx2 with ⟨g4, ge⟩ | ⟨g4, ge⟩
        · obtain ⟨u1, u2⟩ := (ht oK _ hK ge).2 r35 rfl
          exact done r35 u2 u1 g4
        · obtain ⟨u1, u2⟩ := (ht oK _ hK ge).1 _ rfl
          exact back r35 hpk2 g4 u1 u2
      · have hT : TQ (nI (256 + n)) k a.2 q8 := by rw [e8]; exact TQ_g ⟨hd, hKF, c11, hF7⟩ _
        rw [if_neg (by rw [c18]; decide), wd_1 hn (fun x => k_Mo_step_125 (nI n) x q8) (256 + n) (by omega)]
        have lt : ∀ n, n < 256 → (256 : Int32) ≤ nI (256 + n) ∧ nI (256 + n) - 256 = nI n := by decide +kernel
        rw [c11, if_pos (lt n hn).1, (lt n hn).2, ft_n hn, po_bs2] at hK
        have ht := top2 hn hT hg
        unfold k_Mo_step_125
        refine po_b (po_and (x_f_Mo_second _ _ q8 h48) (m_f_Mo_second q6 _ _ q8 pk8)) (fun r35 hr => ?_)
        obtain ⟨hx2, hpk2⟩ := hr
        rcases hx2 with ⟨g4, ge⟩ | ⟨g4, ge⟩
        · obtain ⟨u1, u2⟩ := (ht oK _ hK ge).2 r35 rfl
          exact done r35 u2 u1 g4
        · obtain ⟨u1, u2⟩ := (ht oK _ hK ge).1 _ rfl
          exact back r35 hpk2 g4 u1 u2
    · obtain ⟨u1, u2⟩ := (hz a _ ha he).1 _ rfl
      rw [if_neg u1, po_bs2] at hK
      obtain ⟨v1, v2⟩ := S1_no (k0 := k) a (z_gL r7 5) (z_gI r7 0) u1 u2 oK hK
      have h48 : ¬ z_gI q8 4 = -1 := by rw [fr_I f8 4 (by decide)]; exact h4
      refine po_f h48 (back q8 pk8 h48 v1 ?_)
      rw [fr_L f8 5 (by decide), fr_I f8 0 (by decide)]
      exact v2
