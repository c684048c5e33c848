theorem tb_and2 (x : Int64) : (x &&& 2 = 0) ↔ tb x 1 = false := tb_and0 2 (fun i => tb_pw (k := 1) i (by decide))
theorem tb_and4 (x : Int64) : (x &&& 4 = 0) ↔ tb x 2 = false := tb_and0 4 (fun i => tb_pw (k := 2) i (by decide))
abbrev z_LK : Type := Int64 × Int32 × Int64 × Int64 × Int64 × Int64 × Int32
abbrev z_FM : Type := Int64 × Int32 × Int32 × Int64 × Int32 × Int32 × Int32 × Int32 × Int64 × Int32 × z_Sg
def flR (ev an : Int64) (wr us fe : Int32) : Prop := (wr = 0 ↔ tb ev 1 = false) ∧ (us = 0 ↔ tb ev 2 = false) ∧ (fe = 0 ↔ tb an 63 = true)
theorem loc_fin (ih : z_FM → Option (Int64 × z_Sg)) {q q' q0 : z_Sg} (hu : z_gI q 2 = z_gI q0 2) (hq' : ∃ c, q' = z_sI q0 1 c) {pl tab inp at5 ent ev an : Int64} {how wr us fe lv : Int32} (hf : flR ev an wr us fe) (hv : z_po (k_Mo_find_340 pl at5 lv ent (z_sI q0 1 (mrI how (z_gI q0 2) + 1))) (fun o => o.2 = z_sI q0 1 (mrI how (z_gI q0 2) + 1) ∧ o.1 = tab ||| (pl &&& inp))) (h0 : ¬ (tab ||| (pl &&& inp)) < 0) : z_po (k_Pa_locate_193 pl how tab ev an inp q) (fun a => z_po (kb_Mo_find_71 ih pl how (mrI how (z_gI q0 2)) at5 wr us fe lv ent 1 q') (locR q0 a)) := by
  obtain ⟨c, rfl⟩ := hq'
  have no : ∀ t : Int32, f_Pa_isForbidden ev an how q = some t → t = 1 → z_po (k_Mo_find_336 (z_sI q0 1 (mrI how (z_gI q0 2) + 1))) (locR q0 (mrL (lN 1) how (z_gI q0 2))) := fun t _ _ => po_s (loc_no (q := q0) (by decide) rfl rfl)
  have yes : z_po (k_Mo_find_340 pl at5 lv ent (z_sI q0 1 (mrI how (z_gI q0 2) + 1))) (locR q0 (tab ||| (pl &&& inp))) := po_w hv (fun o ho => ⟨_, ho.1, Or.inl ⟨h0, ho.2⟩⟩)
  have nok : z_po (k_Mo_find_336 (z_sI q0 1 (mrI how (z_gI q0 2) + 1))) (locR q0 (mrL (lN 1) how (z_gI q0 2))) := po_s (loc_no (q := q0) (by decide) rfl rfl)
  have main : ∀ (t : Int32) (a : Int64), f_Pa_isForbidden ev an how q = some t → (t = 0 → a = tab ||| (pl &&& inp)) → (t = 1 → a = mrL (lN 1) how (z_gI q0 2)) → z_po (kb_Mo_find_71 ih pl how (mrI how (z_gI q0 2)) at5 wr us fe lv ent 1 (z_sI q0 1 c)) (locR q0 a) := by
    intro t a ht ha0 ha1
    unfold kb_Mo_find_71
    refine po_f (by decide) (po_n (fun q8 e8 => ?_))
    rw [e8, sI_sI]
    have hu0 : z_gI (z_sI q0 1 (mrI how (z_gI q0 2) + 1)) 2 = z_gI q 2 := hu.symm
    unfold f_Pa_isForbidden k_Pa_isForbidden_16 k_Pa_isForbidden_36 k_Pa_isForbidden_48 k_Pa_isForbidden_52 k_Pa_isForbidden_53 z_gd at ht
    unfold k_Mo_find_314 k_Mo_find_326
    rw [hu0]
    have d0 : (if z_bo (0 : Int32) then some (0 : Int32) else none) = some 0 := rfl
    have d1 : (if z_bo (1 : Int32) then some (1 : Int32) else none) = some 1 := rfl
    rw [d0, d1] at ht
    have e2 : (ev &&& 2 = 0) ↔ wr = 0 := (tb_and2 ev).trans hf.1.symm
    have e4 : (ev &&& 4 = 0) ↔ us = 0 := (tb_and4 ev).trans hf.2.1.symm
    have e6 : (0 ≤ an) ↔ ¬ fe = 0 := by
      rw [hf.2.2, ← tb_lt0]
      exact Int64.not_lt.symm
    simp only [e2, e4, e6] at ht
    by_cases hw : how = 1
    · have h12 : ¬ how = 2 := by rw [hw]; decide
      simp only [if_pos hw, if_neg h12] at ht ⊢
      by_cases hwr : wr = 0
      · simp only [if_pos hwr] at ht ⊢
        rw [ha1 (Option.some.inj ht).symm]; exact nok
      · simp only [if_neg hwr] at ht ⊢
        by_cases hus : z_gI q 2 = 0
        · simp only [if_pos hus] at ht ⊢
          rw [ha0 (Option.some.inj ht).symm]; exact yes
        · simp only [if_neg hus] at ht ⊢
          by_cases hu2 : us = 0
          · simp only [if_pos hu2] at ht ⊢
            rw [ha1 (Option.some.inj ht).symm]; exact nok
          · simp only [if_neg hu2] at ht ⊢
            rw [ha0 (Option.some.inj ht).symm]; exact yes
    · simp only [if_neg hw] at ht ⊢
      have last : ∀ t', (if how = 2 then if ¬ fe = 0 then some (0 : Int32) else some 1 else some 0) = some t' → t' = t → z_po (if how = 2 then if fe = 0 then k_Mo_find_336 (z_sI q0 1 (mrI how (z_gI q0 2) + 1)) else k_Mo_find_340 pl at5 lv ent (z_sI q0 1 (mrI how (z_gI q0 2) + 1)) else k_Mo_find_340 pl at5 lv ent (z_sI q0 1 (mrI how (z_gI q0 2) + 1))) (locR q0 a) := by
        intro t' h1 h2
        by_cases h12 : how = 2
        · simp only [if_pos h12] at h1 ⊢
          by_cases hfe : fe = 0
          · simp only [if_pos hfe, if_neg (show ¬ ¬ fe = 0 from fun h => h hfe)] at h1 ⊢
            rw [ha1 (by rw [← h2]; exact (Option.some.inj h1).symm)]; exact nok
          · simp only [if_neg hfe, if_pos hfe] at h1 ⊢
            rw [ha0 (by rw [← h2]; exact (Option.some.inj h1).symm)]; exact yes
        · simp only [if_neg h12] at h1 ⊢
          rw [ha0 (by rw [← h2]; exact (Option.some.inj h1).symm)]; exact yes
      by_cases hus : z_gI q 2 = 0
      · simp only [if_pos hus] at ht ⊢
        exact last t ht rfl
      · simp only [if_neg hus] at ht ⊢
        by_cases hu2 : us = 0
        · simp only [if_pos hu2] at ht ⊢
          rw [ha1 (Option.some.inj ht).symm]; exact nok
        · simp only [if_neg hu2] at ht ⊢
          exact last t ht rfl
  unfold k_Pa_locate_193
  cases ht : f_Pa_isForbidden ev an how q with
  | none => exact po_0
  | some t =>
    show z_po (if t = 0 then some (tab ||| (pl &&& inp)) else (f_Pa_refused 1 how q).bind (fun r7 => some r7)) _
    rw [K_refused]
    refine po_i (fun c => po_s ?_) (fun c => po_s ?_)
    · exact main t _ ht (fun _ => rfl) (fun h => absurd h (by rw [c]; decide))
    · refine main t _ ht (fun h => absurd h c) (fun _ => by rw [hu]; rfl)
