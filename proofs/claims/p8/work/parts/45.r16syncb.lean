theorem kB_in (w : Nat → Int64) (x : Int64) : y_in (kB w x) 0 255 := by
  unfold kB
  split
  · exact ⟨by decide, by decide⟩
  · split
    · exact z_and (show y_in (255 : Int32) 255 255 from ⟨by decide, by decide⟩) (by decide)
    · exact ⟨by decide, by decide⟩
def DR (k m : z_Sg) : Prop := Sim k m ∧ z_gI m 4 = -1 ∧ z_gI m 5 = 0 ∧ (∃ c : Nat, c ≤ 15 ∧ z_gI k 3 = nI c ∧ z_gI m 6 = nI c ∧ (0 < c → f_Pa_locate (z_gL k 0 + (nI (c - 1)).toInt64) 2 k = some (z_gL k 6) ∧ ¬ z_gL k 6 < 0)) ∧ z_gI k 6 = z_gI m 10 ∧ z_gI k 10 = z_gI m 11 ∧ z_gI k 5 = z_gI m 16 ∧ z_bo (z_gI k 5)
theorem KF_tr {k k' o : z_Sg} {f : Int64} {c : Int32} (h : KF k' o f c) (hk : ∃ f' c', KF k k' f' c') : KF k o f c := by
  obtain ⟨f', c', g⟩ := hk
  obtain ⟨h1, h2, h3, h4, h5, h6, h7, h8, h9, h10, h11⟩ := h
  obtain ⟨g1, g2, g3, g4, g5, g6, g7, g8, g9, g10, g11⟩ := g
  exact ⟨h1.trans g1, h2.trans g2, h3.trans g3, h4.trans g4, h5.trans g5, h6.trans g6, h7.trans g7, h8, h9, h10.trans g10, h11.trans g11⟩
def FQ (k m : z_Sg) (k' : z_Sg) (b : Int32 × z_Sg) : Prop := ∃ f x c, c < 15 ∧ z_gI k 3 = nI c ∧ k' = z_sI (z_sI (z_sL k 6 f) 4 b.1) 3 (nI (c + 1)) ∧ b.2 = z_sI (z_sM (z_sI m 1 x) 3 0 f) 6 (nI (c + 1)) ∧ DR k' b.2 ∧ y_in b.1 0 255
theorem c_lt {c : Nat} (hc : c ≤ 15) : (nI c < 15 ↔ c < 15) ∧ (nI c = 15 ↔ c = 15) ∧ (nI c ≤ 0 ↔ c = 0) := by
  have : ∀ c, c ≤ 15 → (nI c < 15 ↔ c < 15) ∧ (nI c = 15 ↔ c = 15) ∧ (nI c ≤ 0 ↔ c = 0) := by decide +kernel
  exact this c hc
theorem z_l0 (x : Int64) : x + (nI 0).toInt64 = x := by
  rw [show (nI 0).toInt64 = 0 from rfl, Int64.add_zero]
theorem fetch_rel {k m : z_Sg} (h : DR k m) : z_r k (f_De_fetch k) (e_f_Mo_fetch m) (FQ k m) := by
  obtain ⟨hS, ha, hw, ⟨c, hc, e1, e2, hf⟩, h6, h10, h5⟩ := h
  obtain ⟨c1, c2, c3⟩ := c_lt hc
  unfold f_De_fetch e_f_Mo_fetch
  rw [e1, e2]
  by_cases h15 : c = 15
  · rw [if_pos (c2.mpr h15), if_neg (fun x => by have := c1.mp x; omega)]
    unfold e_f_Mo_refuse
    rw [if_neg (by decide)]
    refine r_no (by decide) ?_
    show KF k k (z_gL m 5) (z_gI m 0)
    rw [← Sim_5 hS, ← Sim_c hS]
    exact KF_self k
  · rw [if_neg (fun x => h15 (c2.mp x)), if_pos (c1.mpr (by omega))]
    refine r_nK (fun n2 en2 => ?_)
    unfold e_k_Mo_fetch_23
    rw [lk_def, e2, ← Sim_0 hS, ← en2]
    have good : ∀ (f : Int64) (x : Int32), f_Pa_locate n2 2 k = some f → ¬ f < 0 → z_r k (k_De_fetch_93 (z_sL k 6 f)) (z_nm (z_sI (z_sM (z_sI m 1 x) 3 0 f) 6 ((z_gI (z_sM (z_sI m 1 x) 3 0 f) 6) + (1 : Int32))) (fun q4 => (if (z_bad (0 : Int32) 8) then none else ((f_Mo_byteAt (z_gM q4 3 (0 : Int32).toNatClampNeg) q4).bind (fun r6 => (some (.inr (r6, q4)))))))) (FQ k m) := by
      intro f x hl h0
      have e3 : z_gI (z_sM (z_sI m 1 x) 3 0 f) 6 + 1 = nI (c + 1) := by
        show z_gI m 6 + 1 = _
        rw [e2, nI_S]
      rw [e3]
      refine r_nM (fun q4 e4 => r_gM (fun _ => ?_))
      have e5 : z_gM q4 3 (0 : Int32).toNatClampNeg = f := by
        rw [e4]
        show vp_updL (z_gM m 3) 0 f 0 = f
        unfold vp_updL
        exact if_pos rfl
      rw [e5, M_byteAt]
      unfold k_De_fetch_93
      rw [K_byteAt]
      have eb : mB (z_gN q4 0) f = kB (z_gM k 1) f := by rw [e4]; exact (Sim_m hS f).symm
      rw [eb]
      rw [po_bs2, po_bs2, show kB (z_gM (z_sL k 6 f) 1) (z_gL (z_sL k 6 f) 6) = kB (z_gM k 1) f from rfl]
      refine r_nK (fun q8 e8 => r_nK (fun q9 e9 => r_s ?_))
      have e7 : z_gI q8 3 + 1 = nI (c + 1) := by
        rw [e8]
        show z_gI k 3 + 1 = _
        rw [e1, nI_S]
      rw [e7, e8] at e9
      refine ⟨f, x, c, by omega, e1, e9, e4, ?_, kB_in _ _⟩
      rw [e9]
      show DR _ q4
      rw [e4]
      refine ⟨hS, ha, hw, ⟨c + 1, by omega, rfl, rfl, fun _ => ⟨?_, h0⟩⟩, h6, h10, h5⟩
      show f_Pa_locate (z_gL k 0 + (nI (c + 1 - 1)).toInt64) 2 (z_sI (z_sI (z_sL k 6 f) 4 (kB (z_gM k 1) f)) 3 (nI (c + 1))) = some f
      rw [loc_mk, ← hl, loc_mk k, en2]
      rfl
    have bad : ∀ (a : Int64) (d : z_Dd), a < 0 → noD m n2 a d → z_r k (if (0 : Int64) ≤ a then k_De_fetch_93 (z_sL k 6 a) else ((f_Pa_refusal n2 a (13 : Int32) (z_sL k 6 a)).bind (fun r10 => some (r10.1, r10.2)))) (some (.inl d)) (FQ k m) := by
      intro a d h0 hd
      refine r_fK (fun x => absurd h0 (Int64.not_lt.mpr x)) ?_
      intro o r hx hy
      have h1 := no_KF hS hd (w := 13) (by decide) (k1 := z_sL k 6 a) (fun f c => ⟨rfl, rfl, rfl, rfl, rfl, rfl, rfl, rfl, rfl, rfl, rfl⟩) (KF_self k)
      cases hr : f_Pa_refusal n2 a 13 (z_sL k 6 a) with
      | none => rw [hr] at hx; cases hx
      | some o1 =>
        rw [hr] at hx
        have eo : o1 = o := Option.some.inj (show some (o1.1, o1.2) = some o from hx)
        subst eo
        have h2 := h1 o1 hr
        cases hy
        exact ⟨fun d' e => (by cases e; exact h2), fun b e => (by cases e)⟩
    have mst : ∀ (a : Int64), f_Pa_locate n2 2 k = some a → ∀ (Kx : Option (Int32 × z_Sg)), (a < 0 → ∀ d, noD m n2 a d → z_r k Kx (some (.inl d)) (FQ k m)) → (¬ a < 0 → ∀ x, z_r k Kx (z_nm (z_sI (z_sM (z_sI m 1 x) 3 0 a) 6 ((z_gI (z_sM (z_sI m 1 x) 3 0 a) 6) + (1 : Int32))) (fun q4 => (if (z_bad (0 : Int32) 8) then none else ((f_Mo_byteAt (z_gM q4 3 (0 : Int32).toNatClampNeg) q4).bind (fun r6 => (some (.inr (r6, q4)))))))) (FQ k m)) → z_r k Kx (z_eb (z_lo (z_LUf n2 1 2 0) 2000 (0, m)) (fun r2 => (z_nm (z_sI r2 6 ((z_gI r2 6) + (1 : Int32))) (fun q4 => (if (z_bad (0 : Int32) 8) then none else ((f_Mo_byteAt (z_gM q4 3 (0 : Int32).toNatClampNeg) q4).bind (fun r6 => (some (.inr (r6, q4)))))))))) (FQ k m) := by
      intro a hl Kx h1 h2
      cases hr : z_lo (z_LUf n2 1 2 0) 2000 (0, m) with
      | none => exact r_0M
      | some r =>
        have hr' : z_LUf n2 1 2 0 (z_lo (z_LUf n2 1 2 0) 1999) (nI 0, m) = some r := hr
        rcases lk_step hS (by decide) (by rw [z_l0]; exact hl) (by decide) _ r hr' with ⟨g1, d, g2, g3⟩ | ⟨g1, -, x, g3⟩
        · rw [g2]
          rw [z_l0] at g3
          exact h1 g1 d g3
        · have g4 : r = .inr (z_sM (z_sI m 1 x) 3 0 a) := by
            have g5 : z_LUf n2 1 2 0 (z_lo (z_LUf n2 1 2 0) 1998) (1, z_sM (z_sI m 1 x) 3 0 a) = some r := g3
            have g6 : (if (1 : Int32) ≤ 1 then some (Sum.inr (z_sM (z_sI m 1 x) 3 0 a)) else _) = some r := g5
            rw [if_pos (by decide)] at g6
            exact (Option.some.inj g6).symm
          rw [g4]
          exact h2 g1 x
    have k56 : z_r k (k_De_fetch_56 n2 k) (z_eb (z_lo (z_LUf n2 1 2 0) 2000 (0, m)) (fun r2 => (z_nm (z_sI r2 6 ((z_gI r2 6) + (1 : Int32))) (fun q4 => (if (z_bad (0 : Int32) 8) then none else ((f_Mo_byteAt (z_gM q4 3 (0 : Int32).toNatClampNeg) q4).bind (fun r6 => (some (.inr (r6, q4)))))))))) (FQ k m) := by
      unfold k_De_fetch_56
      cases hl : f_Pa_locate n2 2 k with
      | none => exact r_0K
      | some a =>
        rw [po_bs2]
        refine r_nK (fun q5 e5 => ?_)
        rw [e5]
        show z_r k (if (0 : Int64) ≤ a then _ else _) _ _
        exact mst a hl _ (fun h0 d hd => bad a d h0 hd) (fun h0 x => r_tK (Int64.not_lt.mp h0) (good a x hl h0))
    refine r_iK (fun _ => k56) (fun hc0 => r_iK (fun _ => k56) (fun h4 => ?_))
    have hc1 : 0 < c := Nat.pos_of_ne_zero (fun x => hc0 (c3.mpr x))
    obtain ⟨f1, f2⟩ := hf hc1
    have en : n2 = (z_gL k 0 + (nI (c - 1)).toInt64) + 1 := by
      rw [en2, nI_l (by omega), nI_l (by omega), Int64.add_assoc, show (1 : Int64) = lN 1 from rfl, lN_add]
      congr 2
      omega
    have hn := loc_next f1 f2 (by rw [← en]; exact h4)
    rw [← en] at hn
    refine r_nK (fun q12 e12 => ?_)
    rw [e12]
    exact mst _ hn.1 _ (fun h0 => absurd h0 hn.2) (fun h0 x => good _ x hn.1 hn.2)
