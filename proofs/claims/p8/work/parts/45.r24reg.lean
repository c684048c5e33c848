def mk (n : Nat) : Int64 := if n < 8 then lN (2 ^ (8 * n) - 1) else -1
theorem tb_mk {n : Nat} (hn : n ≤ 8) (i : Nat) (hi : i < 64) : tb (mk n) i = decide (i < 8 * n) := by
  unfold mk
  by_cases h : n < 8
  · rw [if_pos h, tb_msk _ (by omega)]
  · rw [if_neg h, tb_m1, decide_eq_true hi, decide_eq_true (by omega)]
theorem K_maskOf {n : Nat} (h1 : 1 ≤ n) (h8 : n ≤ 8) (q : z_Sg) : f_Ar_maskOf (nI n) q = some (mk n) := by
  unfold f_Ar_maskOf k_Ar_maskOf_20 mk
  have hlt : nI n < 8 ↔ n < 8 := by
    have : ∀ n, n ≤ 8 → (nI n < 8 ↔ n < 8) := by decide +kernel
    exact this n h8
  by_cases h : n < 8
  · rw [if_pos (hlt.mpr h), if_pos h]
    have : ∀ n, n < 8 → (z_lshl 1 ((8 : Int32) * nI n)) - 1 = lN (2 ^ (8 * n) - 1) := by decide +kernel
    rw [this n h]
  · rw [if_neg (fun x => h (hlt.mp x)), if_neg h]
theorem M_lowest (v : Int64) {n : Nat} (h8 : n ≤ 8) (q : z_Sg) : f_Mo_lowest v (nI n) q = some (v &&& mk n) := by
  unfold f_Mo_lowest k_Mo_lowest_5
  obtain ⟨b, h1, h2⟩ := z_lo_ok (F := fun ih5 (a : Int64 × Int32 × Int64 × Int32) => kb_Mo_lowest_5 ih5 a.1 a.2.1 a.2.2.1 a.2.2.2 q) (fun a => a.1 = v ∧ a.2.1 = nI n ∧ ∃ i, i ≤ n ∧ a.2.2.2 = nI i ∧ ∀ j, j < 64 → tb a.2.2.1 j = (decide (j < 8 * i) && tb v j)) (fun a => 8 - a.2.2.2.toNatClampNeg) (fun o => o = v &&& mk n) (by
    rintro ih ⟨a1, a2, a3, a4⟩ ⟨e0, e1, i, hi, e2, hb⟩ hih
    dsimp only at e0 e1 e2 hb hih ⊢
    subst e0 e1 e2
    unfold kb_Mo_lowest_5
    have hle : nI n ≤ nI i ↔ n ≤ i := nI_leI (by omega) (by omega)
    by_cases hin : n ≤ i
    · have : i = n := by omega
      subst this
      rw [if_pos (hle.mpr hin)]
      refine ⟨_, rfl, tb_ext (fun j hj => ?_)⟩
      rw [hb j hj, tb_and, tb_mk h8 j hj, Bool.and_comm]
    · rw [if_neg (fun x => hin (hle.mp x)), po_nm2, po_nm2, nI_S, z_8k i (by omega)]
      refine hih _ ⟨rfl, rfl, i + 1, by omega, rfl, fun j hj => ?_⟩ ?_
      · show tb (a3 ||| (a1 &&& z_lshl 255 (nI (8 * i)))) j = _
        rw [tb_or, tb_and, tb_shl _ _ (by omega), tb_255, hb j hj, decide_eq_true hj]
        by_cases c1 : j < 8 * i
        · rw [decide_eq_true c1, decide_eq_true (show j < 8 * (i + 1) by omega)]; simp
        · rw [decide_eq_false c1]
          by_cases c2 : j < 8 * (i + 1)
          · rw [decide_eq_true c2, decide_eq_true (show j - 8 * i < 8 by omega)]; simp
          · rw [decide_eq_false c2, decide_eq_false (show ¬ j - 8 * i < 8 by omega)]; simp
      · show 8 - (nI (i + 1)).toNatClampNeg < 8 - (nI i).toNatClampNeg
        rw [z_clp (by omega), z_clp (by omega)]
        omega) 2000 (v, nI n, 0, 0) ⟨rfl, rfl, 0, by omega, rfl, fun j hj => by rw [tb_0, decide_eq_false (by omega)]; rfl⟩ (by show 8 - (0 : Int32).toNatClampNeg < 2000; decide)
  rw [h1, h2]
def hi8 (rex : Int32) (j n : Nat) : Prop := n = 1 ∧ rex = 0 ∧ 4 ≤ j ∧ j < 8
noncomputable def rgN (R : Nat → Int64) (rex : Int32) (j n : Nat) : Int64 := @ite _ (hi8 rex j n) (Classical.propDecidable _) ((z_lushr (R (j - 4)) 8) &&& 255) (R j &&& mk n)
noncomputable def wiN (rex : Int32) (j n : Nat) : Nat := @ite _ (hi8 rex j n) (Classical.propDecidable _) (j - 4) j
noncomputable def wvN (R : Nat → Int64) (rex : Int32) (j n : Nat) (v : Int64) : Int64 := @ite _ (hi8 rex j n) (Classical.propDecidable _) ((R (j - 4) &&& (-65281 : Int64)) ||| (z_lshl (v &&& 255) 8)) (if 4 ≤ n then v &&& mk n else (R j &&& (mk n ^^^ (-1 : Int64))) ||| (v &&& mk n))
theorem j_ok : ∀ j, j < 16 → (nI j < 4 ↔ j < 4) ∧ ((8 : Int32) ≤ nI j ↔ 8 ≤ j) ∧ (nI j &&& (15 : Int32)) = nI j ∧ (4 ≤ j → j < 8 → (nI j &&& (3 : Int32)) = nI (j - 4) ∧ nI j - (4 : Int32) = nI (j - 4)) := by decide +kernel
theorem n_ok : ∀ n, n ≤ 8 → (nI n = 1 ↔ n = 1) ∧ ((4 : Int32) ≤ nI n ↔ 4 ≤ n) ∧ (nI n ≤ (3 : Int32) ↔ n ≤ 3) := by decide +kernel
theorem K_upper {k : z_Sg} {j n : Nat} (hj : j < 16) (hn : n ≤ 8) : (hi8 (z_gI k 6) j n → f_Op_isUpperByte (nI j) (nI n) k = some 1) ∧ (¬ hi8 (z_gI k 6) j n → f_Op_isUpperByte (nI j) (nI n) k = some 0) := by
  obtain ⟨a1, a2, a3, a4⟩ := j_ok j hj
  obtain ⟨b1, b2, b3⟩ := n_ok n hn
  unfold f_Op_isUpperByte k_Op_isUpperByte_30 k_Op_isUpperByte_31 hi8 z_gd
  simp only [b1, a1, a2]
  refine ⟨fun h => ?_, fun h => ?_⟩
  · rw [if_pos h.1, if_pos h.2.1, if_neg (by omega), if_neg (by omega)]; rfl
  · by_cases c1 : n = 1
    · rw [if_pos c1]
      by_cases c2 : z_gI k 6 = 0
      · rw [if_pos c2]
        by_cases c3 : j < 4
        · rw [if_pos c3]; rfl
        · rw [if_neg c3]
          by_cases c4 : 8 ≤ j
          · rw [if_pos c4]; rfl
          · exact absurd ⟨c1, c2, by omega, by omega⟩ h
      · rw [if_neg c2]; rfl
    · rw [if_neg c1]; rfl
theorem M_high {m : z_Sg} {j n : Nat} (hj : j < 16) (hn : n ≤ 8) : (hi8 (z_gI m 10) j n → f_Mo_isHigh (nI j) (nI n) m = some 1) ∧ (¬ hi8 (z_gI m 10) j n → f_Mo_isHigh (nI j) (nI n) m = some 0) := by
  obtain ⟨a1, a2, a3, a4⟩ := j_ok j hj
  obtain ⟨b1, b2, b3⟩ := n_ok n hn
  unfold f_Mo_isHigh k_Mo_isHigh_27 k_Mo_isHigh_28 hi8 z_gd
  simp only [b1, a1, a2]
  refine ⟨fun h => ?_, fun h => ?_⟩
  · rw [if_pos h.1, if_pos h.2.1, if_neg (by omega), if_neg (by omega)]; rfl
  · by_cases c1 : n = 1
    · rw [if_pos c1]
      by_cases c2 : z_gI m 10 = 0
      · rw [if_pos c2]
        by_cases c3 : j < 4
        · rw [if_pos c3]; rfl
        · rw [if_neg c3]
          by_cases c4 : 8 ≤ j
          · rw [if_pos c4]; rfl
          · exact absurd ⟨c1, c2, by omega, by omega⟩ h
      · rw [if_neg c2]; rfl
    · rw [if_neg c1]; rfl
theorem in16 {j : Nat} (h : j < 16) : ¬ z_bad (nI j) 16 := vp_in_nI h (by decide)
theorem K_part {k : z_Sg} {j n : Nat} (hj : j < 16) (h1 : 1 ≤ n) (hn : n ≤ 8) : f_Op_part (nI j) (nI n) k = some (rgN (z_gM k 0) (z_gI k 6) j n) := by
  obtain ⟨a1, a2, a3, a4⟩ := j_ok j hj
  unfold f_Op_part rgN
  by_cases h : hi8 (z_gI k 6) j n
  · obtain ⟨a5, a6⟩ := a4 h.2.2.1 h.2.2.2
    rw [(K_upper hj hn).1 h, po_bs2, if_neg (by decide), a5, if_neg (in16 (by omega)), z_clp (by omega), if_pos h]
  · rw [(K_upper hj hn).2 h, po_bs2, if_pos rfl, a3, if_neg (in16 hj), K_maskOf h1 hn, po_bs2, z_clp (by omega), if_neg h]
theorem M_get8 {m : z_Sg} {j n : Nat} (hj : j < 16) (hn : n ≤ 8) : f_Mo_get8 (nI j) (nI n) m = some (rgN (z_gM m 0) (z_gI m 10) j n) := by
  obtain ⟨a1, a2, a3, a4⟩ := j_ok j hj
  unfold f_Mo_get8 k_Mo_get8_37 rgN
  by_cases h : hi8 (z_gI m 10) j n
  · obtain ⟨a5, a6⟩ := a4 h.2.2.1 h.2.2.2
    rw [(M_high hj hn).1 h, po_bs2, if_neg (by decide), a6, if_neg (in16 (by omega)), z_clp (by omega), if_pos h]
  · rw [(M_high hj hn).2 h, po_bs2, if_pos rfl, if_neg (in16 hj), M_lowest _ hn, po_bs2, z_clp (by omega), if_neg h]
theorem K_putPart {k : z_Sg} {j n : Nat} (hj : j < 16) (h1 : 1 ≤ n) (hn : n ≤ 8) (v : Int64) : f_Op_putPart (nI j) v (nI n) k = some (z_sM k 0 (wiN (z_gI k 6) j n) (wvN (z_gM k 0) (z_gI k 6) j n v)) := by
  obtain ⟨a1, a2, a3, a4⟩ := j_ok j hj
  obtain ⟨b1, b2, b3⟩ := n_ok n hn
  unfold f_Op_putPart k_Op_putPart_86 wiN wvN
  by_cases h : hi8 (z_gI k 6) j n
  · obtain ⟨a5, a6⟩ := a4 h.2.2.1 h.2.2.2
    rw [(K_upper hj hn).1 h, po_bs2, if_neg (by decide), a5, if_neg (in16 (by omega)), po_nm2, if_neg (in16 (by omega)), po_nm2, z_clp (by omega), if_pos h, if_pos h]
  · rw [(K_upper hj hn).2 h, po_bs2, if_pos rfl, K_maskOf h1 hn, po_bs2, a3, if_neg h, if_neg h]
    by_cases c4 : 4 ≤ n
    · rw [if_pos (b2.mpr c4), if_pos c4, if_neg (in16 hj), po_nm2, z_clp (by omega)]
      have : (0 : Int64) ||| (v &&& mk n) = v &&& mk n := tb_ext (fun i _ => by rw [tb_or, tb_0]; rfl)
      rw [this]
    · rw [if_neg (fun x => c4 (b2.mp x)), if_neg c4, if_neg (in16 hj), if_neg (in16 hj), po_nm2, z_clp (by omega)]
theorem M_put8 {m : z_Sg} {j n : Nat} (hj : j < 16) (hn : n ≤ 8) (ha : z_gI m 4 = -1) (v : Int64) : f_Mo_put8 (nI j) (nI n) v m = some (z_sM m 0 (wiN (z_gI m 10) j n) (wvN (z_gM m 0) (z_gI m 10) j n v)) := by
  obtain ⟨a1, a2, a3, a4⟩ := j_ok j hj
  obtain ⟨b1, b2, b3⟩ := n_ok n hn
  unfold f_Mo_put8 k_Mo_put8_99 wiN wvN
  rw [if_pos ha]
  by_cases h : hi8 (z_gI m 10) j n
  · obtain ⟨a5, a6⟩ := a4 h.2.2.1 h.2.2.2
    rw [(M_high hj hn).1 h, po_bs2, if_neg (by decide), a6, if_neg (in16 (by omega)), show (1 : Int32) = nI 1 from rfl, M_lowest _ (by omega), po_bs2, if_neg (in16 (by omega)), po_nm2, z_clp (by omega), if_pos h, if_pos h]
    rfl
  · rw [(M_high hj hn).2 h, po_bs2, if_pos rfl, if_neg h, if_neg h]
    by_cases c4 : 4 ≤ n
    · rw [if_neg (fun x => by have := b3.mp x; omega), M_lowest _ hn, po_bs2, if_neg (in16 hj), po_nm2, z_clp (by omega), if_pos c4]
    · rw [if_pos (b3.mpr (by omega)), if_neg (in16 hj), M_lowest _ hn, M_lowest _ hn, po_bs2, po_bs2, if_neg (in16 hj), po_nm2, z_clp (by omega), if_neg c4]
      have : (-1 : Int64) &&& mk n = mk n := tb_ext (fun i hi => by rw [tb_and, tb_m1, decide_eq_true hi]; rfl)
      rw [this]
theorem wi_lt {rex : Int32} {j n : Nat} (hj : j < 16) : wiN rex j n < 16 := by
  unfold wiN
  split <;> omega
theorem rg_eq {R R' : Nat → Int64} (h : ∀ i, i < 16 → R i = R' i) (rex : Int32) {j : Nat} (n : Nat) (hj : j < 16) : rgN R rex j n = rgN R' rex j n := by
  unfold rgN
  rw [h j hj, h (j - 4) (by omega)]
theorem wv_eq {R R' : Nat → Int64} (h : ∀ i, i < 16 → R i = R' i) (rex : Int32) {j : Nat} (n : Nat) (hj : j < 16) (v : Int64) : wvN R rex j n v = wvN R' rex j n v := by
  unfold wvN
  rw [h j hj, h (j - 4) (by omega)]
theorem wv_low {R : Nat → Int64} {rex : Int32} {j n : Nat} {v v' : Int64} (h : v &&& mk n = v' &&& mk n) : wvN R rex j n v = wvN R rex j n v' := by
  unfold wvN
  by_cases hh : hi8 rex j n
  · rw [if_pos hh, if_pos hh]
    have hn : n = 1 := hh.1
    subst hn
    have : v &&& 255 = v' &&& 255 := h
    rw [this]
  · rw [if_neg hh, if_neg hh, h]
def szV (rex small : Int32) : Nat := if (rex &&& (8 : Int32)) = 0 then (if small = 0 then 4 else 2) else 8
def szS (rex small : Int32) : Nat := if szV rex small = 2 then 2 else 8
theorem K_sizeV (k : z_Sg) : f_De_sizeV k = some (nI (szV (z_gI k 6) (z_gI k 5))) := by
  unfold f_De_sizeV k_De_sizeV_27 szV
  split
  · split <;> rfl
  · rfl
theorem M_wide (m : z_Sg) : f_Mo_wide m = some (nI (szV (z_gI m 10) (z_gI m 16))) := by
  unfold f_Mo_wide k_Mo_wide_27 szV
  split
  · split <;> rfl
  · rfl
theorem M_stackSize (m : z_Sg) : f_Mo_stackSize m = some (nI (szS (z_gI m 10) (z_gI m 16))) := by
  unfold f_Mo_stackSize k_Mo_stackSize_21 k_Mo_stackSize_23 szS szV
  by_cases h : z_gI m 16 = 0
  · rw [if_pos h]
    split <;> simp [h] <;> rfl
  · rw [if_neg h]
    by_cases h8 : (z_gI m 10 &&& (8 : Int32)) = 0
    · simp [h8, h]; rfl
    · simp [h8]; rfl
theorem szV_in (rex small : Int32) : szV rex small = 2 ∨ szV rex small = 4 ∨ szV rex small = 8 := by
  unfold szV
  split
  · split <;> omega
  · omega
theorem K_sizeOnStack (k : z_Sg) : f_De_sizeOnStack k = some (nI (szS (z_gI k 6) (z_gI k 5))) := by
  unfold f_De_sizeOnStack k_De_sizeOnStack_14 szS
  rw [K_sizeV, po_bs2]
  rcases szV_in (z_gI k 6) (z_gI k 5) with h | h | h <;> rw [h] <;> rfl
