theorem nar_b (x : Int32) : (vp_nar .byte (x.toInt8.toInt32)) &&& 255 = x &&& 255 := by
  have e : vp_nar .byte (x.toInt8.toInt32) = x.toInt8.toInt32.toInt8.toInt32 := rfl
  have b : ∀ (y : Int32) i, i < 8 → tI (y.toInt8.toInt32) i = tI y i := by
    intro y i hi
    unfold tI
    simp [BitVec.getLsbD_signExtend, BitVec.getElem_signExtend, hi, show i < 32 by omega]
  rw [e]
  refine tI_ext (fun i hi => ?_)
  rw [tI_and, tI_and, tI_255]
  by_cases c : i < 8
  · rw [b _ i c, b _ i c]
  · rw [decide_eq_false c, Bool.and_false, Bool.and_false]
theorem M_commit {q : z_Sg} {w : Nat} (hw : w ≤ 8) (h5 : z_gI q 5 = nI w) (hneg : ∀ j, j < w → ¬ z_gM q 2 j < 0) : z_po (k_Mo_step_174 0 q) (fun o => o.1 = -1 ∧ fr [] [] [] [0] q o.2 ∧ ∀ y, mB (z_gN o.2 0) y = bw (mB (z_gN q 0)) (z_gM q 2) (z_gN q 3) w y) := by
  unfold k_Mo_step_174
  refine po_l (fun a : Int32 × z_Sg => ∃ j, j ≤ w ∧ a.1 = nI j ∧ fr [] [] [] [0] q a.2 ∧ ∀ y, mB (z_gN a.2 0) y = bw (mB (z_gN q 0)) (z_gM q 2) (z_gN q 3) j y) (fun ih a ha hih => ?_) _ _ ⟨0, by omega, rfl, fr_0, fun y => rfl⟩
  obtain ⟨j, hj, e1, f1, f2⟩ := ha
  have le : (nI w ≤ nI j) ↔ w ≤ j := (nI_cm (show w ≤ 65 by omega) (show j ≤ 65 by omega)).1
  have g2 : z_gM a.2 2 = z_gM q 2 := fr_M f1 2 (by decide)
  have g3 : z_gN a.2 3 = z_gN q 3 := fr_N f1 3 (by decide)
  have g5 : z_gI a.2 5 = nI w := by rw [fr_I f1 5 (by decide)]; exact h5
  show z_po (kb_Mo_step_174 ih a.1 a.2) _
  unfold kb_Mo_step_174 k_Mo_step_214
  rw [e1, g5, g2, g3]
  have cl : (nI j).toNatClampNeg = j := by
    have : ∀ j, j < 66 → (nI j).toNatClampNeg = j := by decide +kernel
    exact this j (by omega)
  simp only [cl]
  refine po_i (fun c => ?_) (fun c => ?_)
  · have ej : j = w := by have := le.mp c; omega
    subst ej
    exact po_s ⟨rfl, f1, f2⟩
  · have jw : j < w := by
      by_cases x : w ≤ j
      · exact absurd (le.mpr x) c
      · omega
    refine po_g (fun _ => ?_)
    refine po_i (fun c1 => ?_) (fun c1 => ?_)
    · refine po_n (fun n27 e27 => hih (n27, a.2) ⟨j + 1, by omega, by rw [e27]; exact nI_S j, f1, fun y => ?_⟩)
      rw [f2 y]
      show _ = if y = z_gM q 2 j ∧ ¬ (z_gM q 2 j < 0 ∨ ¬ z_gM q 2 j < 32768) then _ else _
      rw [if_neg (fun z => z.2 (Or.inr (Int64.not_lt.mpr c1)))]
    · refine po_g (fun _ => po_g (fun _ => po_g (fun _ => po_n (fun q31 e31 => po_n (fun n27 e27 => ?_)))))
      have c1' : z_gM q 2 j < 32768 := Int64.not_le.mp c1
      have inn : ¬ (z_gM q 2 j < 0 ∨ ¬ z_gM q 2 j < 32768) := fun z => z.elim (hneg j jw) (fun x => x c1')
      obtain ⟨t, ht, et⟩ := z_inn inn
      refine hih (n27, q31) ⟨j + 1, by omega, by rw [e27]; exact nI_S j, by rw [e31]; exact fr_sN f1 (by decide), fun y => ?_⟩
      show mB (z_gN q31 0) y = if y = z_gM q 2 j ∧ ¬ (z_gM q 2 j < 0 ∨ ¬ z_gM q 2 j < 32768) then (z_gN q 3 j &&& 255) else bw (mB (z_gN q 0)) (z_gM q 2) (z_gN q 3) j y
      rw [← f2 y, e31]
      have it : ((z_gM q 2 j).toInt32).toNatClampNeg = t := by rw [et, lN_i, z_clp (by omega)]
      rw [it]
      by_cases cy : y < 0 ∨ ¬ y < 32768
      · rw [mB_hi cy, if_neg (fun z => by rw [z.1] at cy; exact inn cy), mB_hi cy]
      · obtain ⟨u, hu, eu⟩ := z_inn cy
        rw [eu, mB_lt hu, mB_lt hu]
        show (if u = t then _ else z_gN a.2 0 u) &&& 255 = _
        by_cases cu : u = t
        · rw [if_pos cu, if_pos ⟨by rw [et, cu], inn⟩]
          exact nar_b _
        · rw [if_neg cu, if_neg (fun z => cu ?_)]
          have z1 := z.1
          rw [et] at z1
          have := congrArg uN z1
          rw [uN_N (by omega), uN_N (by omega)] at this
          exact this
theorem cl_n {j : Nat} (h : j < 66) : (nI j).toNatClampNeg = j := by
  have : ∀ j, j < 66 → (nI j).toNatClampNeg = j := by decide +kernel
  exact this j h
theorem fb_nar {x : Int32} (h : x = 0 ∨ x = 1) : vp_nar .boolean x = x := by rcases h with rfl | rfl <;> rfl
theorem M_copy0 {q : z_Sg} {P : Int32 × z_Sg → Prop} (h : ∀ q', fr [] [] [1] [] q q' → (∀ i, i < 16 → z_gM q' 1 i = z_gM q 0 i) → z_po (k_Mo_step_46 0 q') P) : z_po (k_Mo_step_20 0 q) P := by
  unfold k_Mo_step_20
  refine po_l (fun a : Int32 × z_Sg => ∃ j, j ≤ 16 ∧ a.1 = nI j ∧ fr [] [] [1] [] q a.2 ∧ ∀ i, i < j → z_gM a.2 1 i = z_gM q 0 i) (fun ih a ha hih => ?_) _ _ ⟨0, by omega, rfl, fr_0, fun i hi => by omega⟩
  obtain ⟨j, hj, e1, f1, f2⟩ := ha
  have le : ((16 : Int32) ≤ nI j) ↔ 16 ≤ j := (nI_cm (show 16 ≤ 65 by omega) (show j ≤ 65 by omega)).1
  show z_po (kb_Mo_step_20 ih a.1 a.2) _
  unfold kb_Mo_step_20
  rw [e1]; simp only [cl_n (show j < 66 by omega)]
  refine po_i (fun c => h a.2 f1 (fun i hi => f2 i (by have := le.mp c; omega))) (fun c => ?_)
  have j16 : j < 16 := by
    by_cases x : 16 ≤ j
    · exact absurd (le.mpr x) c
    · omega
  refine po_g (fun _ => po_g (fun _ => po_n (fun q45 e45 => po_n (fun n46 e46 => hih (n46, q45) ⟨j + 1, by omega, by rw [e46]; exact nI_S j, by rw [e45]; exact fr_sM f1 (by decide), fun i hi => ?_⟩))))
  rw [e45]
  show (if i = j then z_gM a.2 0 j else z_gM a.2 1 i) = _
  by_cases c2 : i = j
  · rw [if_pos c2, c2, fr_M f1 0 (by decide)]
  · rw [if_neg c2]; exact f2 i (by omega)
theorem M_copy1 {q : z_Sg} (hF : FB q) {P : Int32 × z_Sg → Prop} (h : ∀ q', fr [] [] [] [2] q q' → (∀ i, i < 7 → z_gN q' 2 i = z_gN q 1 i) → z_po ((f_Mo_open q').bind (fun r7 => z_nm (z_sL r7 7 ((z_gL r7 0) + ((z_gI r7 6).toInt64))) (fun q8 => if (z_gI q8 4) = (-1 : Int32) then (if (z_gI q8 18) = 0 then (if ((z_gI q8 15) &&& (1 : Int32)) = 0 then (k_Mo_step_153 (z_gI q8 15) (1 : Int32) q8) else ((f_Mo_wide q8).bind (fun r34 => k_Mo_step_153 (z_gI q8 15) r34 q8))) else (if ((z_gI q8 15) &&& (1 : Int32)) = 0 then (k_Mo_step_125 (z_gI q8 15) (1 : Int32) q8) else ((f_Mo_wide q8).bind (fun r37 => k_Mo_step_125 (z_gI q8 15) r37 q8)))) else (k_Mo_step_156 q8)))) P) : z_po (k_Mo_step_46 0 q) P := by
  unfold k_Mo_step_46
  refine po_l (fun a : Int32 × z_Sg => ∃ j, j ≤ 7 ∧ a.1 = nI j ∧ fr [] [] [] [2] q a.2 ∧ ∀ i, i < j → z_gN a.2 2 i = z_gN q 1 i) (fun ih a ha hih => ?_) _ _ ⟨0, by omega, rfl, fr_0, fun i hi => by omega⟩
  obtain ⟨j, hj, e1, f1, f2⟩ := ha
  have le : ((7 : Int32) ≤ nI j) ↔ 7 ≤ j := (nI_cm (show 7 ≤ 65 by omega) (show j ≤ 65 by omega)).1
  show z_po (kb_Mo_step_46 ih a.1 a.2) _
  unfold kb_Mo_step_46
  rw [e1]; simp only [cl_n (show j < 66 by omega)]
  refine po_i (fun c => h a.2 f1 (fun i hi => f2 i (by have := le.mp c; omega))) (fun c => ?_)
  have j7 : j < 7 := by
    by_cases x : 7 ≤ j
    · exact absurd (le.mpr x) c
    · omega
  refine po_g (fun _ => po_g (fun _ => po_n (fun q45 e45 => po_n (fun n46 e46 => hih (n46, q45) ⟨j + 1, by omega, by rw [e46]; exact nI_S j, by rw [e45]; exact fr_sN f1 (by decide), fun i hi => ?_⟩))))
  rw [e45]
  show (if i = j then vp_nar .boolean (z_gN a.2 1 j) else z_gN a.2 2 i) = _
  by_cases c2 : i = j
  · rw [if_pos c2, c2, fr_N f1 1 (by decide)]; exact fb_nar (hF j)
  · rw [if_neg c2]; exact f2 i (by omega)
theorem M_back {q : z_Sg} (hF : ∀ i, i < 7 → z_gN q 2 i = 0 ∨ z_gN q 2 i = 1) : z_po (k_Mo_step_232 0 q) (fun o => o.1 = z_gI q 4 ∧ fr [] [] [0] [1] q o.2 ∧ (∀ i, i < 16 → z_gM o.2 0 i = z_gM q 1 i) ∧ ∀ i, i < 7 → z_gN o.2 1 i = z_gN q 2 i) := by
  have second : ∀ q', fr [] [] [0] [] q q' → (∀ i, i < 16 → z_gM q' 0 i = z_gM q 1 i) → z_po (k_Mo_step_258 0 q') (fun o => o.1 = z_gI q 4 ∧ fr [] [] [0] [1] q o.2 ∧ (∀ i, i < 16 → z_gM o.2 0 i = z_gM q 1 i) ∧ ∀ i, i < 7 → z_gN o.2 1 i = z_gN q 2 i) := by
    intro q' g1 g2
    unfold k_Mo_step_258
    refine po_l (fun a : Int32 × z_Sg => ∃ j, j ≤ 7 ∧ a.1 = nI j ∧ fr [] [] [] [1] q' a.2 ∧ ∀ i, i < j → z_gN a.2 1 i = z_gN q 2 i) (fun ih a ha hih => ?_) _ _ ⟨0, by omega, rfl, fr_0, fun i hi => by omega⟩
    obtain ⟨j, hj, e1, f1, f2⟩ := ha
    have le : ((7 : Int32) ≤ nI j) ↔ 7 ≤ j := (nI_cm (show 7 ≤ 65 by omega) (show j ≤ 65 by omega)).1
    show z_po (kb_Mo_step_258 ih a.1 a.2) _
    unfold kb_Mo_step_258
    rw [e1]; simp only [cl_n (show j < 66 by omega)]
    refine po_i (fun c => po_s ⟨?_, fr_t (fr_w g1 (by decide) (by decide) (by decide) (by decide)) (fr_w f1 (by decide) (by decide) (by decide) (by decide)), fun i hi => ?_, fun i hi => f2 i (by have := le.mp c; omega)⟩) (fun c => ?_)
    · show z_gI a.2 4 = _
      rw [fr_I f1 4 (by decide), fr_I g1 4 (by decide)]
    · show z_gM a.2 0 i = _
      rw [fr_M f1 0 (by decide)]; exact g2 i hi
    · have j7 : j < 7 := by
        by_cases x : 7 ≤ j
        · exact absurd (le.mpr x) c
        · omega
      refine po_g (fun _ => po_g (fun _ => po_n (fun q45 e45 => po_n (fun n46 e46 => hih (n46, q45) ⟨j + 1, by omega, by rw [e46]; exact nI_S j, by rw [e45]; exact fr_sN f1 (by decide), fun i hi => ?_⟩))))
      rw [e45]
      show (if i = j then vp_nar .boolean (z_gN a.2 2 j) else z_gN a.2 1 i) = _
      by_cases c2 : i = j
      · rw [if_pos c2, c2, fr_N f1 2 (by decide), fr_N g1 2 (by decide)]; exact fb_nar (hF j j7)
      · rw [if_neg c2]; exact f2 i (by omega)
  unfold k_Mo_step_232
  refine po_l (fun a : Int32 × z_Sg => ∃ j, j ≤ 16 ∧ a.1 = nI j ∧ fr [] [] [0] [] q a.2 ∧ ∀ i, i < j → z_gM a.2 0 i = z_gM q 1 i) (fun ih a ha hih => ?_) _ _ ⟨0, by omega, rfl, fr_0, fun i hi => by omega⟩
  obtain ⟨j, hj, e1, f1, f2⟩ := ha
  have le : ((16 : Int32) ≤ nI j) ↔ 16 ≤ j := (nI_cm (show 16 ≤ 65 by omega) (show j ≤ 65 by omega)).1
  show z_po (kb_Mo_step_232 ih a.1 a.2) _
  unfold kb_Mo_step_232
  rw [e1]; simp only [cl_n (show j < 66 by omega)]
  refine po_i (fun c => second a.2 f1 (fun i hi => f2 i (by have := le.mp c; omega))) (fun c => ?_)
  have j16 : j < 16 := by
    by_cases x : 16 ≤ j
    · exact absurd (le.mpr x) c
    · omega
  refine po_g (fun _ => po_g (fun _ => po_n (fun q45 e45 => po_n (fun n46 e46 => hih (n46, q45) ⟨j + 1, by omega, by rw [e46]; exact nI_S j, by rw [e45]; exact fr_sM f1 (by decide), fun i hi => ?_⟩))))
  rw [e45]
  show (if i = j then z_gM a.2 1 j else z_gM a.2 0 i) = _
  by_cases c2 : i = j
  · rw [if_pos c2, c2, fr_M f1 1 (by decide)]
  · rw [if_neg c2]; exact f2 i (by omega)
def z_pK (q : z_Sg) : (Nat → Int64) × (Nat → Int64) × (Int64 × Int64 × Int64 × Int64 × Int64) × Int32 × Int32 := (z_gM q 0, z_gM q 1, (z_gL q 0, z_gL q 1, z_gL q 2, z_gL q 3, z_gL q 4), z_gI q 2, z_gI q 0)
theorem pK_KF {k o : z_Sg} (h : z_pK o = z_pK k) : ∃ f c, KF k o f c := by
  unfold z_pK at h
  simp only [Prod.mk.injEq] at h
  obtain ⟨h1, h2, ⟨h3, h4, h5, h6, h7⟩, h8, h9⟩ := h
  exact ⟨z_gL o 5, z_gI o 1, h1, h2, h3, h4, h5, h6, h7, rfl, rfl, h8, h9⟩
theorem pK_f {q0 q : z_Sg} (h : z_pK q = z_pK q0) : z_po (f_De_fetch q) (fun o => z_pK o.2 = z_pK q0) := by
  have a93 : ∀ q, z_pK q = z_pK q0 → z_po (k_De_fetch_93 q) (fun o => z_pK o.2 = z_pK q0) := by
    intro q hq
    unfold k_De_fetch_93
    exact po_b (R := fun _ => True) (fun _ _ => trivial) (fun r _ => po_n (fun q8 e8 => po_n (fun q9 e9 => po_s (by rw [e9, e8]; exact hq))))
  have a56 : ∀ x q, z_pK q = z_pK q0 → z_po (k_De_fetch_56 x q) (fun o => z_pK o.2 = z_pK q0) := by
    intro x q hq
    unfold k_De_fetch_56
    refine po_b (R := fun _ => True) (fun _ _ => trivial) (fun r _ => po_n (fun q5 e5 => ?_))
    have h5 : z_pK q5 = z_pK q0 := by rw [e5]; exact hq
    refine po_i (fun _ => a93 q5 h5) (fun _ => ?_)
    rw [K_refusal]
    refine po_s ?_
    by_cases c : z_gL q5 6 = -1
    · rw [if_pos c]; exact h5
    · rw [if_neg c]; exact h5
  unfold f_De_fetch
  refine po_i (fun _ => po_n (fun n2 _ => po_i (fun _ => a56 n2 q h) (fun _ => po_i (fun _ => a56 n2 q h) (fun _ => po_n (fun q12 e12 => a93 q12 ?_))))) (fun _ => po_s h)
  rw [e12]; exact h
theorem pK_o (k : z_Sg) : z_po (f_De_fetchOpcode k) (fun o => z_pK o.2 = z_pK k) := by
  have a67 : ∀ q, z_pK q = z_pK k → z_po (k_De_fetchOpcode_67 q) (fun o => z_pK o.2 = z_pK k) := by
    intro q hq
    unfold k_De_fetchOpcode_67
    refine po_n (fun q6 e6 => ?_)
    have h6 : z_pK q6 = z_pK k := by rw [e6]; exact hq
    exact po_i (fun _ => po_b (pK_f h6) (fun r hr => po_n (fun q9 e9 => po_s (by rw [e9]; exact hr)))) (fun _ => po_s h6)
  have aP : ∀ x q, z_pK q = z_pK k → z_po (f_De_takePrefix x q) (fun o => z_pK o = z_pK k) := by
    intro x q hq
    have go : ∀ t, z_po (k_De_takePrefix_16 x t q) (fun o => z_pK o = z_pK k) := by
      intro t
      unfold k_De_takePrefix_16 k_De_takePrefix_45
      refine po_n (fun q2 e2 => ?_)
      have h2 : z_pK q2 = z_pK k := by rw [e2]; exact hq
      exact po_i (fun _ => po_n (fun q6 e6 => po_s (by rw [e6]; exact h2))) (fun _ => po_i (fun _ => po_n (fun q5 e5 => po_s (by rw [e5]; exact h2))) (fun _ => po_s h2))
    unfold f_De_takePrefix
    exact po_i (fun _ => go x) (fun _ => go 0)
  unfold f_De_fetchOpcode k_De_fetchOpcode_22
  refine po_n (fun q1 e1 => po_n (fun q2 e2 => po_n (fun q3 e3 => po_n (fun q4 e4 => ?_))))
  refine po_l (fun a : Int32 × z_Sg => z_pK a.2 = z_pK k) (fun ih a ha hih => ?_) _ _ (by rw [e4, e3, e2, e1]; rfl)
  show z_po (kb_De_fetchOpcode_22 ih a.1 a.2) _
  unfold kb_De_fetchOpcode_22
  refine po_i (fun _ => a67 a.2 ha) (fun _ => po_b (pK_f ha) (fun r hr => po_i (fun _ => ?_) (fun _ => po_s hr)))
  refine po_b (R := fun _ => True) (fun _ _ => trivial) (fun r12 _ => po_i (fun _ => a67 r.2 hr) (fun _ => po_b (aP _ _ hr) (fun r14 h14 => po_n (fun n15 _ => hih (n15, r14) h14))))
