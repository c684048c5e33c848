theorem i2l2i (c : Int32) : c.toInt64.toInt32 = c := by
  refine tI_ext (fun i hi => ?_)
  rw [tI_l2i, tb_i2l, if_pos hi, decide_eq_true hi, decide_eq_true (show i < 64 by omega)]
  simp
theorem lk1 {k m : z_Sg} (hS : Sim k m) {p a : Int64} {how : Int32} (h : f_Pa_locate p how k = some a) : (f_Mo_isWrong p m = some 1 ∧ a = -1) ∨ (f_Mo_isWrong p m = some 0 ∧ z_po (f_Mo_find p how m) (locR m a)) := by
  obtain ⟨n, hn, rfl⟩ := wb_of p
  by_cases hw : z_wr n
  · left
    have h1 := h
    unfold f_Pa_locate at h1
    rw [p_Pa_isWrong hn, po_bs2, z_wI_pos hw, if_neg (by decide)] at h1
    exact ⟨by rw [p_Mo_isWrong hn, z_wI_pos hw], (Option.some.inj h1).symm⟩
  · right
    refine ⟨by rw [p_Mo_isWrong hn, z_wI_neg hw], ?_⟩
    exact loc_find (Sim_m hS) (Sim_1 hS) (Sim_u hS) (lN n) how (by rw [p_Pa_isWrong hn, z_wI_neg hw]) a h
abbrev z_LUf (x1 : Int64) (x3 x4 x5 : Int32) : (Int32 × z_Sg → Option (Sum z_Dd z_Sg)) → Int32 × z_Sg → Option (Sum z_Dd z_Sg) := fun jh a => if x3 ≤ a.1 then some (.inr a.2) else (f_Mo_isWrong (x1 + a.1.toInt64) a.2).bind (fun r3 => if r3 = 0 then (f_Mo_find (x1 + a.1.toInt64) x4 a.2).bind (fun r5 => if z_bad a.1 8 then none else (if r5.1 < 0 then some (.inl (14, x1 + a.1.toInt64, z_gI r5.2 1)) else jh (a.1 + 1, z_sM r5.2 3 a.1.toNatClampNeg r5.1))) else some (.inl (if x5 = 0 then 13 else 12, z_gL a.2 5, z_gI a.2 0)))
theorem lk_def (x1 : Int64) (x3 x4 x5 : Int32) (q : z_Sg) : e_f_Mo_lookUp x1 x3 x4 x5 q = z_lo (z_LUf x1 x3 x4 x5) 2000 (0, q) := rfl
def noD (m : z_Sg) (p a : Int64) (d : z_Dd) : Prop := (a = -1 ∧ d.2.1 = z_gL m 5 ∧ d.2.2 = z_gI m 0) ∨ (¬ a = -1 ∧ d.2.1 = p ∧ d.2.2 = (-2 - a).toInt32)
theorem lk_step {k m : z_Sg} (hS : Sim k m) {x1 a : Int64} {x3 how x5 : Int32} {i : Nat} (hi : i < 2 ^ 30) (h : f_Pa_locate (x1 + (nI i).toInt64) how k = some a) (hl : ¬ x3 ≤ nI i) (jh : Int32 × z_Sg → Option (Sum z_Dd z_Sg)) (r : Sum z_Dd z_Sg) (hr : z_LUf x1 x3 how x5 jh (nI i, m) = some r) : (a < 0 ∧ ∃ d, r = .inl d ∧ noD m (x1 + (nI i).toInt64) a d) ∨ (¬ a < 0 ∧ i < 8 ∧ ∃ c, jh (nI i + 1, z_sM (z_sI m 1 c) 3 i a) = some r) := by
  have hr : (if x3 ≤ nI i then some (.inr m) else (f_Mo_isWrong (x1 + (nI i).toInt64) m).bind (fun r3 => if r3 = 0 then (f_Mo_find (x1 + (nI i).toInt64) how m).bind (fun r5 => if z_bad (nI i) 8 then none else (if r5.1 < 0 then some (.inl (14, x1 + (nI i).toInt64, z_gI r5.2 1)) else jh (nI i + 1, z_sM r5.2 3 (nI i).toNatClampNeg r5.1))) else some (.inl (if x5 = 0 then 13 else 12, z_gL m 5, z_gI m 0)))) = some r := hr
  rw [if_neg hl] at hr
  rcases lk1 hS h with ⟨e1, e2⟩ | ⟨e1, e2⟩
  · rw [e1, po_bs2, if_neg (by decide)] at hr
    left
    refine ⟨by rw [e2]; decide, _, (Option.some.inj hr).symm, Or.inl ⟨e2, rfl, rfl⟩⟩
  · rw [e1, po_bs2, if_pos rfl] at hr
    cases hf : f_Mo_find (x1 + (nI i).toInt64) how m with
    | none => rw [hf] at hr; cases hr
    | some r5 =>
      rw [hf, po_bs2] at hr
      by_cases hb : z_bad (nI i) 8
      · rw [if_pos hb] at hr; cases hr
      · rw [if_neg hb] at hr
        have hi8 : i < 8 := by
          rcases Nat.lt_or_ge i 8 with h8 | h8
          · exact h8
          · exact absurd (Or.inr (by rw [z_clp hi]; exact h8)) hb
        obtain ⟨c, ec, hc⟩ := e2 r5 hf
        rcases hc with ⟨c1, c2⟩ | ⟨c1, c2, c3, c4⟩
        · right
          rw [c2, if_neg c1, z_clp hi, ec] at hr
          exact ⟨c1, hi8, c, hr⟩
        · left
          rw [c2, if_pos (by decide)] at hr
          refine ⟨c1, _, (Option.some.inj hr).symm, Or.inr ⟨c3, rfl, ?_⟩⟩
          show z_gI r5.2 1 = _
          rw [c4, i2l2i, ec]
          rfl
theorem K_refusal (p a : Int64) (w : Int32) (q : z_Sg) : f_Pa_refusal p a w q = some (if a = -1 then (w, q) else (14, z_sI (z_sL q 5 p) 1 ((-2 - a).toInt32))) := by
  unfold f_Pa_refusal
  by_cases h : a = -1
  · rw [if_pos h, if_pos h]
  · rw [if_neg h, if_neg h]; rfl
theorem no_KF {k k1 m : z_Sg} (hS : Sim k m) {p a : Int64} {d : z_Dd} (h : noD m p a d) {w : Int32} (hw : ¬ w = -1) (hk : ∀ f c, KF k (z_sI (z_sL k1 5 f) 1 c) f c) (hk2 : KF k k1 (z_gL k 5) (z_gI k 1)) : z_po (f_Pa_refusal p a w k1) (fun o => ¬ o.1 = -1 ∧ KF k o.2 d.2.1 d.2.2) := by
  rw [K_refusal]
  refine po_s ?_
  rcases h with ⟨h1, h2, h3⟩ | ⟨h1, h2, h3⟩
  · rw [if_pos h1, h2, h3, ← Sim_5 hS, ← Sim_c hS]; exact ⟨hw, hk2⟩
  · rw [if_neg h1, h2, h3]; exact ⟨show ¬ (14 : Int32) = -1 by decide, hk _ _⟩
