theorem find_189 {ih : z_FM → Option (Int64 × z_Sg)} {pl E ev an : Int64} {how mr wr us fe lv lg : Int32} {q : z_Sg} {P : Int64 × z_Sg → Prop} (hf : flR ev an wr us fe) (h : ∀ wr' us' fe' : Int32, flR (ev &&& E) (an ||| E) wr' us' fe' → z_po (k_Mo_find_252 ih pl how mr wr' us' lv E lg fe' q) P) : z_po (k_Mo_find_189 ih pl how mr wr us fe lv E lg q) P := by
  have w0 : (wr = 0 ∨ E &&& 2 = 0) → ((0 : Int32) = 0 ↔ tb (ev &&& E) 1 = false) := fun c => ⟨fun _ => by
    rw [tb_and]
    rcases c with c | c
    · rw [hf.1.mp c]; rfl
    · rw [(tb_and2 E).mp c, Bool.and_false], fun _ => rfl⟩
  have w1 : ¬ wr = 0 → ¬ E &&& 2 = 0 → ((1 : Int32) = 0 ↔ tb (ev &&& E) 1 = false) := fun c d => ⟨fun h => absurd h (by decide), fun h => by
    rw [tb_and] at h
    have h1 : tb ev 1 = true := by
      cases hh : tb ev 1 with
      | false => exact absurd (hf.1.mpr hh) c
      | true => rfl
    have h2 : tb E 1 = true := by
      cases hh : tb E 1 with
      | false => exact absurd ((tb_and2 E).mpr hh) d
      | true => rfl
    rw [h1, h2] at h; cases h⟩
  have u0 : (us = 0 ∨ E &&& 4 = 0) → ((0 : Int32) = 0 ↔ tb (ev &&& E) 2 = false) := fun c => ⟨fun _ => by
    rw [tb_and]
    rcases c with c | c
    · rw [hf.2.1.mp c]; rfl
    · rw [(tb_and4 E).mp c, Bool.and_false], fun _ => rfl⟩
  have u1 : ¬ us = 0 → ¬ E &&& 4 = 0 → ((1 : Int32) = 0 ↔ tb (ev &&& E) 2 = false) := fun c d => ⟨fun h => absurd h (by decide), fun h => by
    rw [tb_and] at h
    have h1 : tb ev 2 = true := by
      cases hh : tb ev 2 with
      | false => exact absurd (hf.2.1.mpr hh) c
      | true => rfl
    have h2 : tb E 2 = true := by
      cases hh : tb E 2 with
      | false => exact absurd ((tb_and4 E).mpr hh) d
      | true => rfl
    rw [h1, h2] at h; cases h⟩
  have f0 : (fe = 0 ∨ E < 0) → ((0 : Int32) = 0 ↔ tb (an ||| E) 63 = true) := fun c => ⟨fun _ => by
    rw [tb_or]
    rcases c with c | c
    · rw [hf.2.2.mp c]; rfl
    · rw [(tb_lt0 E).mp c, Bool.or_true], fun _ => rfl⟩
  have f1 : ¬ fe = 0 → ¬ E < 0 → ((1 : Int32) = 0 ↔ tb (an ||| E) 63 = true) := fun c d => ⟨fun h => absurd h (by decide), fun h => by
    rw [tb_or] at h
    have h1 : tb an 63 = false := by
      cases hh : tb an 63 with
      | true => exact absurd (hf.2.2.mpr hh) c
      | false => rfl
    have h2 : tb E 63 = false := by
      cases hh : tb E 63 with
      | true => exact absurd ((tb_lt0 E).mpr hh) d
      | false => rfl
    rw [h1, h2] at h; cases h⟩
  have s3 : ∀ wr' us' : Int32, (wr' = 0 ↔ tb (ev &&& E) 1 = false) → (us' = 0 ↔ tb (ev &&& E) 2 = false) → z_po (k_Mo_find_233 ih pl how mr wr' fe lv E lg us' q) P := by
    intro wr' us' hw hu
    unfold k_Mo_find_233 k_Mo_find_251
    refine po_i (fun c => h _ _ _ ⟨hw, hu, f0 (Or.inl c)⟩) (fun c => ?_)
    exact po_i (fun d => h _ _ _ ⟨hw, hu, f0 (Or.inr d)⟩) (fun d => h _ _ _ ⟨hw, hu, f1 c d⟩)
  have s2 : ∀ wr' : Int32, (wr' = 0 ↔ tb (ev &&& E) 1 = false) → z_po (k_Mo_find_210 ih pl how mr us fe lv E lg wr' q) P := by
    intro wr' hw
    unfold k_Mo_find_210 k_Mo_find_232
    refine po_i (fun c => s3 _ _ hw (u0 (Or.inl c))) (fun c => ?_)
    exact po_i (fun d => s3 _ _ hw (u0 (Or.inr d))) (fun d => s3 _ _ hw (u1 c d))
  unfold k_Mo_find_189 k_Mo_find_209
  refine po_i (fun c => s2 _ (w0 (Or.inl c))) (fun c => ?_)
  exact po_i (fun d => s2 _ (w0 (Or.inr d))) (fun d => s2 _ (w1 c d))
theorem frame_N (e : Int64) : ∃ T, T < 2 ^ 52 ∧ T % 4096 = 0 ∧ e &&& 4503599627366400 = lN T := by
  obtain ⟨T, hT, eT⟩ := wb_of (e &&& 4503599627366400)
  have hc : ∀ i, i < 64 → tb 4503599627366400 i = decide (12 ≤ i ∧ i < 52) := by decide +kernel
  have h1 : lN T &&& lN (2 ^ 12 - 1) = 0 := by
    rw [← eT]
    refine tb_ext (fun i hi => ?_)
    rw [tb_and, tb_and, hc i hi, tb_msk _ (by decide), tb_0]
    by_cases h : i < 12
    · rw [decide_eq_false (show ¬ (12 ≤ i ∧ i < 52) by omega)]; simp
    · rw [decide_eq_false h]; simp
  rw [wb_mask hT (by decide), show (0 : Int64) = lN 0 from rfl, pk_lEQ (by omega) (by decide)] at h1
  have h2 : z_lushr (lN T) (nI 52) = 0 := by
    rw [← eT]
    refine tb_ext (fun i hi => ?_)
    rw [tb_ushr _ _ (by decide), tb_and, tb_0]
    by_cases h : i + 52 < 64
    · rw [hc _ h, decide_eq_false (show ¬ (12 ≤ i + 52 ∧ i + 52 < 52) by omega)]; simp
    · rw [tb_ge (x := e) (by omega)]; simp
  rw [z_lushr_N hT (by decide), show (0 : Int64) = lN 0 from rfl, pk_lEQ (by omega) (by decide)] at h2
  exact ⟨T, by omega, by omega, eT⟩
theorem n8_eq (pl e : Int64) {sh : Nat} (hs : sh < 64) : ∃ a, a % 8 = 0 ∧ a < 2 ^ 53 ∧ (e &&& 4503599627366400) + z_lshl ((z_lushr pl (nI sh)) &&& 511) 3 = lN a ∧ (e &&& 4503599627366400) + 8 * ((z_lushr pl (nI sh)) &&& 511) = lN a := by
  obtain ⟨T, h1, h2, eT⟩ := frame_N e
  obtain ⟨n, hn, en⟩ := wb_of pl
  have e5 : (z_lushr pl (nI sh)) &&& 511 = lN (n / 2 ^ sh % 512) := by
    rw [en, z_lushr_N hn hs, show (511 : Int64) = lN (2 ^ 9 - 1) from rfl, wb_mask (Nat.lt_of_le_of_lt (Nat.div_le_self _ _) hn) (by decide)]
  have hk : n / 2 ^ sh % 512 < 512 := Nat.mod_lt _ (by decide)
  refine ⟨T + 8 * (n / 2 ^ sh % 512), by omega, by omega, ?_, ?_⟩
  · rw [e5, eT, show (3 : Int32) = nI 3 from rfl, z_lshl_N _ (by decide), lN_add]; congr 1; omega
  · rw [e5, eT, show (8 : Int64) = lN 8 from rfl, lN_mul, lN_add]
theorem in_ok {n : Nat} (hn : n ≤ 3) : ¬ (nI (12 + 9 * n) < 12) ∧ ((12 : Int32) + 9 * nI n = nI (12 + 9 * n)) ∧ (z_lshl 1 ((((20 : Int32) + 9 * nI n) - nI (12 + 9 * n)) + 1) - 1 = (511 : Int64)) ∧ (nI (12 + 9 * n) ≤ 12 ↔ n = 0) ∧ (nI n ≤ 0 ↔ n = 0) ∧ (nI n = 0 ↔ n = 0) ∧ ((21 : Int32) < nI (12 + 9 * n) ↔ 1 < n) ∧ ((1 : Int32) < nI n ↔ 1 < n) ∧ (nI n = 1 ↔ n = 1) := by
  have : n = 0 ∨ n = 1 ∨ n = 2 ∨ n = 3 := by omega
  rcases this with rfl | rfl | rfl | rfl <;> decide +kernel
theorem or_ge0 {e m p r : Int64} (hm : tb m 63 = false) (hr : tb r 63 = false) : ¬ ((e &&& m) ||| (p &&& r)) < 0 := by
  rw [tb_lt0, tb_or, tb_and, tb_and, hm, hr]; simp
theorem loc_step {q q0 : z_Sg} (hm : memR (z_gM q 1) (z_gN q0 0)) (hu : z_gI q 2 = z_gI q0 2) (pl : Int64) (how : Int32) {n : Nat} (hn : n ≤ 3) (ihK : z_LK → Option Int64) (ihM : z_FM → Option (Int64 × z_Sg)) (e ev an ent : Int64) (wr us fe c : Int32) (hf : flR ev an wr us fe)
    (hnext : ∀ (e' ev' an' ent' : Int64) (wr' us' fe' c' : Int32), 0 < n → flR ev' an' wr' us' fe' → z_po (ihK (pl, how, e' &&& 4503599627366400, ev', an', 4095, nI (12 + 9 * (n - 1)))) (fun a => z_po (ihM (pl, how, mrI how (z_gI q0 2), e' &&& 4503599627366400, wr', us', fe', nI (n - 1), ent', 0, z_sI q0 1 c')) (locR q0 a)))
    (hlast : ∀ (E ev' an' : Int64) (wr' us' fe' c' : Int32), n = 0 → flR ev' an' wr' us' fe' → z_po (ihK (pl, how, E &&& 4503599627366400, ev', an', 4095, 3)) (fun a => z_po (ihM (pl, how, mrI how (z_gI q0 2), E &&& 4503599627366400, wr', us', fe', nI 0, E, 1, z_sI q0 1 c')) (locR q0 a)))
    (hlarge : ∀ (E ev' an' : Int64) (wr' us' fe' c' : Int32), n = 1 → flR ev' an' wr' us' fe' → z_po (k_Pa_locate_193 pl how (E &&& 4503599625273344) ev' an' 2097151 q) (fun a => z_po (ihM (pl, how, mrI how (z_gI q0 2), E &&& 4503599627366400, wr', us', fe', nI 1, E, 1, z_sI q0 1 c')) (locR q0 a))) :
    z_po (kb_Pa_locate_41 ihK pl how (e &&& 4503599627366400) ev an 4095 (nI (12 + 9 * n)) q) (fun a => z_po (kb_Mo_find_71 ihM pl how (mrI how (z_gI q0 2)) (e &&& 4503599627366400) wr us fe (nI n) ent 0 (z_sI q0 1 c)) (locR q0 a)) := by
  obtain ⟨i1, i2, i3, i4, i5, i6, i7, i8, i9⟩ := in_ok hn
  obtain ⟨a, ha8, ha, eK, eM⟩ := n8_eq pl e (sh := 12 + 9 * n) (by omega)
  have hE : ∃ E, f_Mo_eight ((e &&& 4503599627366400) + 8 * ((z_lushr pl (nI (12 + 9 * n))) &&& 511)) (z_sI q0 1 c) = some E ∧ ∀ P : Int64 → Prop, z_po (k_Pa_locate_86 ihK pl how ev an 4095 (nI (12 + 9 * n)) E q) P → z_po (kb_Pa_locate_41 ihK pl how (e &&& 4503599627366400) ev an 4095 (nI (12 + 9 * n)) q) P := by
    refine ⟨if a < 32768 then z_gM q 1 (a / 8) else 0, ?_, fun P hP => ?_⟩
    · rw [M_eight, eM]
      exact congrArg some (eight_word hm ha8 (by omega))
    · unfold kb_Pa_locate_41
      refine po_f i1 (po_n (fun n8 e8 => ?_))
      rw [e8, eK]
      by_cases h : a < 32768
      · rw [if_pos h] at hP
        have h1 : ¬ (32768 : Int64) ≤ lN a := by
          rw [show (32768 : Int64) = lN 32768 from rfl, pk_lLE (by decide) (by omega)]; omega
        have h2 : ((z_lushr (lN a) 3).toInt32) = nI (a / 8) := by
          rw [show (3 : Int32) = nI 3 from rfl, z_lushr_N (by omega) (by decide), lN_i]
        refine po_f h1 (po_g (fun _ => ?_))
        rw [h2, z_clp (by omega)]
        exact hP
      · rw [if_neg h] at hP
        have h1 : (32768 : Int64) ≤ lN a := by
          rw [show (32768 : Int64) = lN 32768 from rfl, pk_lLE (by decide) (by omega)]; omega
        exact po_t h1 hP
  obtain ⟨E, hE1, hE2⟩ := hE
  refine hE2 _ ?_
  have hM : ∀ (P : Int64 × z_Sg → Prop), (n = 0 ∨ E &&& 128 = 0 → z_po (k_Mo_find_130 ihM pl how (mrI how (z_gI q0 2)) wr us fe (nI n) E 0 (z_sI q0 1 c)) P) → (¬ n = 0 → ¬ E &&& 128 = 0 → z_po (k_Mo_find_130 ihM pl how (mrI how (z_gI q0 2)) wr us fe (nI n) E 1 (z_sI q0 1 c)) P) → z_po (kb_Mo_find_71 ihM pl how (mrI how (z_gI q0 2)) (e &&& 4503599627366400) wr us fe (nI n) ent 0 (z_sI q0 1 c)) P := by
    intro P h1 h2
    unfold kb_Mo_find_71 f_Mo_bits
    refine po_t rfl ?_
    refine po_bs ?_
    rw [i2, i3, hE1]
    refine po_bs ?_
    unfold k_Mo_find_129
    refine po_i (fun d => h1 (Or.inl (i5.mp d))) (fun d => ?_)
    exact po_i (fun d2 => h1 (Or.inr d2)) (fun d2 => h2 (fun x => d (i5.mpr x)) d2)
  unfold k_Pa_locate_86
  refine po_n (fun n10 e10 => po_n (fun n11 e11 => ?_))
  rw [e10, e11]
  have h130 : ∀ (lg : Int32) (P : Int64 × z_Sg → Prop), (E &&& 1 = 0 → z_po (some ((-1 : Int64), z_sI q0 1 (mrI how (z_gI q0 2)))) P) → (¬ E &&& 1 = 0 → z_po (if lg = 0 then (k_Mo_find_189 ihM pl how (mrI how (z_gI q0 2)) wr us fe (nI n) E lg (z_sI q0 1 (mrI how (z_gI q0 2) + 9))) else (if (1 : Int32) < nI n then (k_Mo_find_185 (z_sI q0 1 (mrI how (z_gI q0 2) + 9))) else ((f_Mo_bits E (13 : Int32) (20 : Int32) (z_sI q0 1 (mrI how (z_gI q0 2) + 9))).bind (fun r39 => if r39 = (0 : Int64) then (k_Mo_find_189 ihM pl how (mrI how (z_gI q0 2)) wr us fe (nI n) E lg (z_sI q0 1 (mrI how (z_gI q0 2) + 9))) else (k_Mo_find_185 (z_sI q0 1 (mrI how (z_gI q0 2) + 9))))))) P) → z_po (k_Mo_find_130 ihM pl how (mrI how (z_gI q0 2)) wr us fe (nI n) E lg (z_sI q0 1 c)) P := by
    intro lg P h1 h2
    unfold k_Mo_find_130
    refine po_n (fun q22 e22 => ?_)
    rw [e22, sI_sI]
    refine po_i (fun d => h1 d) (fun d => po_n (fun q24 e24 => ?_))
    rw [e24, sI_sI]
    exact h2 d
  by_cases hp : E &&& 1 = 0
  · refine po_t hp ?_
    rw [K_refused]
    refine po_s ?_
    have fin : z_po (some ((-1 : Int64), z_sI q0 1 (mrI how (z_gI q0 2)))) (locR q0 (mrL 0 how (z_gI q 2))) := by
      rw [hu]
      refine po_s (loc_no (q := q0) (c := 0) (by decide) rfl ?_)
      show z_sI q0 1 (mrI how (z_gI q0 2)) = z_sI q0 1 (mrI how (z_gI q0 2) + 0)
      rw [Int32.add_zero]
    exact hM _ (fun _ => h130 _ _ (fun _ => fin) (fun d => absurd hp d)) (fun _ _ => h130 _ _ (fun _ => fin) (fun d => absurd hp d))
  · refine po_f hp (po_n (fun n13 e13 => ?_))
    rw [e13]
    have e252 : ∀ (lg wr' us' fe' c' : Int32) (P : Int64 × z_Sg → Prop), ((n = 0 ∨ ¬ lg = 0) → z_po (ihM (pl, how, mrI how (z_gI q0 2), E &&& 4503599627366400, wr', us', fe', nI n, E, 1, z_sI q0 1 c')) P) → (¬ n = 0 → lg = 0 → z_po (ihM (pl, how, mrI how (z_gI q0 2), E &&& 4503599627366400, wr', us', fe', nI (n - 1), E, 0, z_sI q0 1 c')) P) → z_po (k_Mo_find_252 ihM pl how (mrI how (z_gI q0 2)) wr' us' (nI n) E lg fe' (z_sI q0 1 c')) P := by
      intro lg wr' us' fe' c' P h1 h2
      unfold k_Mo_find_252 f_Mo_bits
      refine po_bs (po_n (fun n30 e30 => ?_))
      rw [e30, m_12_51]
      unfold k_Mo_find_278 k_Mo_find_283 k_Mo_find_293
      refine po_i (fun d => ?_) (fun d => ?_)
      · refine po_i (fun d2 => ?_) (fun d2 => ?_)
        · exact po_f (by decide) (h1 (Or.inl (i6.mp d2)))
        · refine po_t rfl (po_n (fun n33 e33 => ?_))
          have hn0 : ¬ n = 0 := fun x => d2 (i6.mpr x)
          have e4 : nI n + (-1 : Int32) = nI (n - 1) := by
            have : n = 1 ∨ n = 2 ∨ n = 3 := by omega
            rcases this with rfl | rfl | rfl <;> decide
          rw [e33, e4]
          exact h2 hn0 d
      · exact po_f (by decide) (h1 (Or.inr d))
    by_cases hn0 : n = 0
    · refine po_t (i4.mpr hn0) ?_
      unfold k_Pa_locate_187
      refine po_n (fun n15 e15 => ?_)
      rw [e15, show nI (12 + 9 * n) + (-9 : Int32) = 3 by subst hn0; decide]
      intro a0 hK
      refine hM _ (fun _ => h130 _ _ (fun d => absurd d hp) (fun _ => po_t rfl ?_)) (fun d => absurd hn0 d)
      refine find_189 hf (fun wr' us' fe' hf' => e252 _ _ _ _ _ _ (fun _ => ?_) (fun d => absurd hn0 d))
      have := hlast E (ev &&& E) (an ||| E) wr' us' fe' (mrI how (z_gI q0 2) + 9) hn0 hf' a0 hK
      rw [hn0]
      exact this
    · refine po_f (fun x => hn0 (i4.mp x)) ?_
      by_cases hl : E &&& 128 = 0
      · refine po_t hl ?_
        unfold k_Pa_locate_187
        refine po_n (fun n15 e15 => ?_)
        have e5 : nI (12 + 9 * n) + (-9 : Int32) = nI (12 + 9 * (n - 1)) := by
          have : n = 1 ∨ n = 2 ∨ n = 3 := by omega
          rcases this with rfl | rfl | rfl <;> decide
        rw [e15, e5]
        intro a0 hK
        refine hM _ (fun _ => h130 _ _ (fun d => absurd d hp) (fun _ => po_t rfl ?_)) (fun _ d => absurd hl d)
        refine find_189 hf (fun wr' us' fe' hf' => e252 _ _ _ _ _ _ (fun d => ?_) (fun _ _ => ?_))
        · rcases d with d | d
          · exact absurd d hn0
          · exact absurd rfl d
        · exact hnext E (ev &&& E) (an ||| E) E wr' us' fe' _ (by omega) hf' a0 hK
      · refine po_f hl ?_
        have no9 : z_po (k_Mo_find_185 (z_sI q0 1 (mrI how (z_gI q0 2) + 9))) (locR q0 (mrL 9 how (z_gI q 2))) := by
          rw [hu]
          exact po_s (loc_no (q := q0) (c := 9) (by decide) rfl rfl)
        have r9 : z_po (k_Pa_locate_162 how q) (fun a => a = mrL 9 how (z_gI q 2)) := by
          unfold k_Pa_locate_162
          rw [K_refused]
          exact po_s rfl
        by_cases h1 : 1 < n
        · refine po_t (i7.mpr h1) (po_w r9 (fun a0 ha0 => ?_))
          rw [ha0]
          exact hM _ (fun d => by rcases d with d | d; exact absurd d hn0; exact absurd d hl) (fun _ _ => h130 _ _ (fun d => absurd d hp) (fun _ => po_f (by decide) (po_t (i8.mpr h1) no9)))
        · refine po_f (fun x => h1 (i7.mp x)) ?_
          have hn1 : n = 1 := by omega
          by_cases hr : E &&& 2088960 = 0
          · refine po_t hr (po_n (fun n20 e20 => ?_))
            rw [e20]
            intro a0 hK
            refine hM _ (fun d => by rcases d with d | d; exact absurd d hn0; exact absurd d hl) (fun _ _ => h130 _ _ (fun d => absurd d hp) (fun _ => po_f (by decide) (po_f (fun x => h1 (i8.mp x)) ?_)))
            unfold f_Mo_bits
            refine po_bs ?_
            refine po_t ((m_13_20 E).mpr hr) ?_
            refine find_189 hf (fun wr' us' fe' hf' => e252 _ _ _ _ _ _ (fun _ => ?_) (fun _ d => absurd d (by decide)))
            have := hlarge E (ev &&& E) (an ||| E) wr' us' fe' (mrI how (z_gI q0 2) + 9) hn1 hf' a0 hK
            rw [hn1]
            exact this
          · refine po_f hr (po_w r9 (fun a0 ha0 => ?_))
            rw [ha0]
            refine hM _ (fun d => by rcases d with d | d; exact absurd d hn0; exact absurd d hl) (fun _ _ => h130 _ _ (fun d => absurd d hp) (fun _ => po_f (by decide) (po_f (fun x => h1 (i8.mp x)) ?_)))
            unfold f_Mo_bits
            refine po_bs ?_
            exact po_f (fun x => hr ((m_13_20 E).mp x)) no9
abbrev z_FKf (q : z_Sg) : (z_LK → Option Int64) → z_LK → Option Int64 := fun ih41 a => kb_Pa_locate_41 ih41 a.1 a.2.1 a.2.2.1 a.2.2.2.1 a.2.2.2.2.1 a.2.2.2.2.2.1 a.2.2.2.2.2.2 q
abbrev z_FMf : (z_FM → Option (Int64 × z_Sg)) → z_FM → Option (Int64 × z_Sg) := fun ih71 a => kb_Mo_find_71 ih71 a.1 a.2.1 a.2.2.1 a.2.2.2.1 a.2.2.2.2.1 a.2.2.2.2.2.1 a.2.2.2.2.2.2.1 a.2.2.2.2.2.2.2.1 a.2.2.2.2.2.2.2.2.1 a.2.2.2.2.2.2.2.2.2.1 a.2.2.2.2.2.2.2.2.2.2
theorem loc_loop {q q0 : z_Sg} (hm : memR (z_gM q 1) (z_gN q0 0)) (hu : z_gI q 2 = z_gI q0 2) (pl : Int64) (how : Int32) : ∀ (n : Nat), n ≤ 3 → ∀ (f1 f2 : Nat) (e ev an ent : Int64) (wr us fe c : Int32), flR ev an wr us fe → z_po (z_lo (z_FKf q) f1 (pl, how, e &&& 4503599627366400, ev, an, 4095, nI (12 + 9 * n))) (fun a => z_po (z_lo z_FMf f2 (pl, how, mrI how (z_gI q0 2), e &&& 4503599627366400, wr, us, fe, nI n, ent, 0, z_sI q0 1 c)) (locR q0 a)) := by
  have k40 : ∀ (E : Int64) (c' : Int32), z_po (k_Mo_find_340 pl (E &&& 4503599627366400) (nI 0) E (z_sI q0 1 c')) (fun o => o.2 = z_sI q0 1 c' ∧ o.1 = (E &&& 4503599627366400) ||| (pl &&& 4095)) := by
    intro E c'
    unfold k_Mo_find_340 k_Mo_find_379 f_Mo_bits
    refine po_f (by decide) (po_s ⟨rfl, ?_⟩)
    exact m_in_4k E pl
  have k41 : ∀ (E : Int64) (c' : Int32), z_po (k_Mo_find_340 pl (E &&& 4503599627366400) (nI 1) E (z_sI q0 1 c')) (fun o => o.2 = z_sI q0 1 c' ∧ o.1 = (E &&& 4503599625273344) ||| (pl &&& 2097151)) := by
    intro E c'
    unfold k_Mo_find_340 k_Mo_find_379 f_Mo_bits
    refine po_t (by decide) (po_s ⟨rfl, ?_⟩)
    exact m_in_2m E pl
  have g4 : ∀ E : Int64, ¬ ((E &&& 4503599627366400) ||| (pl &&& 4095)) < 0 := fun E => or_ge0 (by decide +kernel) (by decide +kernel)
  have g2 : ∀ E : Int64, ¬ ((E &&& 4503599625273344) ||| (pl &&& 2097151)) < 0 := fun E => or_ge0 (by decide +kernel) (by decide +kernel)
  intro n
  induction n with
  | zero =>
    intro hn f1 f2 e ev an ent wr us fe c hf
    cases f1 with
    | zero => exact po_0
    | succ f1 =>
      cases f2 with
      | zero => exact fun _ _ => po_0
      | succ f2 =>
        refine loc_step hm hu pl how hn _ _ e ev an ent wr us fe c hf (fun _ _ _ _ _ _ _ _ h => absurd h (by decide)) ?_ (fun _ _ _ _ _ _ _ h => absurd h (by decide))
        intro E ev' an' wr' us' fe' c' _ hf'
        cases f1 with
        | zero => exact po_0
        | succ f1 =>
          cases f2 with
          | zero => exact fun _ _ => po_0
          | succ f2 =>
            show z_po (kb_Pa_locate_41 (z_lo (z_FKf q) f1) pl how (E &&& 4503599627366400) ev' an' 4095 3 q) (fun a => z_po (kb_Mo_find_71 (z_lo z_FMf f2) pl how (mrI how (z_gI q0 2)) (E &&& 4503599627366400) wr' us' fe' (nI 0) E 1 (z_sI q0 1 c')) (locR q0 a))
            unfold kb_Pa_locate_41
            refine po_t (by decide) ?_
            exact loc_fin _ hu ⟨c', rfl⟩ hf' (k40 E _) (g4 E)
  | succ n ihn =>
    intro hn f1 f2 e ev an ent wr us fe c hf
    cases f1 with
    | zero => exact po_0
    | succ f1 =>
      cases f2 with
      | zero => exact fun _ _ => po_0
      | succ f2 =>
        refine loc_step hm hu pl how hn _ _ e ev an ent wr us fe c hf ?_ (fun _ _ _ _ _ _ _ h => absurd h (by omega)) ?_
        · intro e' ev' an' ent' wr' us' fe' c' _ hf'
          exact ihn (by omega) f1 f2 e' ev' an' ent' wr' us' fe' c' hf'
        · intro E ev' an' wr' us' fe' c' h1 hf'
          cases f2 with
          | zero => exact fun _ _ => po_0
          | succ f2 =>
            show z_po (k_Pa_locate_193 pl how (E &&& 4503599625273344) ev' an' 2097151 q) (fun a => z_po (kb_Mo_find_71 (z_lo z_FMf f2) pl how (mrI how (z_gI q0 2)) (E &&& 4503599627366400) wr' us' fe' (nI 1) E 1 (z_sI q0 1 c')) (locR q0 a))
            exact loc_fin _ hu ⟨c', rfl⟩ hf' (k41 E _) (g2 E)
theorem loc_find {q q0 : z_Sg} (hm : memR (z_gM q 1) (z_gN q0 0)) (ht : z_gL q 1 = z_gL q0 1) (hu : z_gI q 2 = z_gI q0 2) (pl : Int64) (how : Int32) (hw : f_Pa_isWrong pl q = some 0) : z_po (f_Pa_locate pl how q) (fun a => z_po (f_Mo_find pl how q0) (locR q0 a)) := by
  have fl1 : flR (-1) 0 1 1 1 := ⟨by decide +kernel, by decide +kernel, by decide +kernel⟩
  unfold f_Pa_locate
  rw [hw]
  refine po_bs ?_
  refine po_t rfl (po_n (fun n3 e3 => ?_))
  rw [e3, ht]
  unfold k_Pa_locate_41
  have hl := loc_loop hm hu pl how 3 (by decide) 2000 2000 (z_gL q0 1) (-1) 0 0 1 1 1 (z_gI q0 1) fl1
  rw [sI_id] at hl
  refine po_w hl (fun a ha => ?_)
  have h34 : ∀ t0 t1 : Int32, t0 + t1 = mrI how (z_gI q0 2) → z_po (k_Mo_find_34 pl how t0 t1 q0) (locR q0 a) := by
    intro t0 t1 h
    unfold k_Mo_find_34 f_Mo_bits
    refine po_n (fun n4 e4 => ?_)
    refine po_bs (po_n (fun n6 e6 => ?_))
    rw [e4, e6, h, m_12_51]
    unfold k_Mo_find_71
    exact ha
  unfold f_Mo_find k_Mo_find_10 k_Mo_find_22
  have em : ∀ a b c : Int32, a = (if how = 1 then 2 else 0) → b = (if z_gI q0 2 = 0 then 0 else 4) → c = (if how = 2 then 16 else 0) → a + b + c = mrI how (z_gI q0 2) := by
    intro a b c h1 h2 h3
    unfold mrI
    rw [h1, h2, h3]
  refine po_i (fun c1 => ?_) (fun c1 => ?_)
  · refine po_i (fun c2 => ?_) (fun c2 => ?_)
    · exact po_i (fun c3 => h34 _ _ (em _ _ _ (if_pos c1).symm (if_pos c2).symm (if_pos c3).symm)) (fun c3 => h34 _ _ (em _ _ _ (if_pos c1).symm (if_pos c2).symm (if_neg c3).symm))
    · exact po_i (fun c3 => h34 _ _ (em _ _ _ (if_pos c1).symm (if_neg c2).symm (if_pos c3).symm)) (fun c3 => h34 _ _ (em _ _ _ (if_pos c1).symm (if_neg c2).symm (if_neg c3).symm))
  · refine po_i (fun c2 => ?_) (fun c2 => ?_)
    · exact po_i (fun c3 => h34 _ _ (em _ _ _ (if_neg c1).symm (if_pos c2).symm (if_pos c3).symm)) (fun c3 => h34 _ _ (em _ _ _ (if_neg c1).symm (if_pos c2).symm (if_neg c3).symm))
    · exact po_i (fun c3 => h34 _ _ (em _ _ _ (if_neg c1).symm (if_neg c2).symm (if_pos c3).symm)) (fun c3 => h34 _ _ (em _ _ _ (if_neg c1).symm (if_neg c2).symm (if_neg c3).symm))
