theorem jo_lo (a b : Int32) : ((z_lshl (a.toInt64) (32 : Int32)) ||| ((b.toInt64) &&& (4294967295 : Int64))).toInt32 = b := by
  refine tI_ext (fun i hi => ?_)
  have m : tb (4294967295 : Int64) i = decide (i < 32) := tb_msk (k := 32) i (by decide)
  rw [tI_l2i, tb_or, show (32 : Int32) = nI 32 from rfl, tb_shl _ i (by decide), tb_and, m, tb_i2l b i, decide_eq_true hi, if_pos hi, decide_eq_true (show i < 64 by omega)]
  simp
theorem set_r {k m : z_Sg} (h : Sim k m) (a b c : Int32) {oK : Int32 × z_Sg} (hK : f_Co_set a b c k = some oK) : z_po (f_Mo_set a b c m) (fun oM => oK.1 = oM.1 ∧ Sim oK.2 oM.2) := by
  have eK : f_Co_set a b c k = (if a < 0 then (k_Co_set_30 a c ((z_lshl (b.toInt64) (32 : Int32)) ||| ((c.toInt64) &&& (4294967295 : Int64))) k) else (if (16 : Int32) ≤ a then (k_Co_set_30 a c ((z_lshl (b.toInt64) (32 : Int32)) ||| ((c.toInt64) &&& (4294967295 : Int64))) k) else (if z_bad a 16 then none else (z_nm (z_sM k 0 a.toNatClampNeg ((z_lshl (b.toInt64) (32 : Int32)) ||| ((c.toInt64) &&& (4294967295 : Int64)))) (fun q17 => some ((1 : Int32), q17)))))) := rfl
  have eM : f_Mo_set a b c m = (if a < 0 then (k_Mo_set_17 m) else (if a ≤ (21 : Int32) then (if (16 : Int32) ≤ a then (k_Mo_set_33 a ((z_lshl (b.toInt64) (32 : Int32)) ||| ((c.toInt64) &&& (4294967295 : Int64))) m) else (if z_bad a 16 then none else (z_nm (z_sM m 0 a.toNatClampNeg ((z_lshl (b.toInt64) (32 : Int32)) ||| ((c.toInt64) &&& (4294967295 : Int64)))) (fun q18 => k_Mo_set_33 a ((z_lshl (b.toInt64) (32 : Int32)) ||| ((c.toInt64) &&& (4294967295 : Int64))) q18)))) else (k_Mo_set_17 m))) := rfl
  have hlo := jo_lo b c
  rw [eK] at hK
  rw [eM]
  generalize ((z_lshl (b.toInt64) (32 : Int32)) ||| ((c.toInt64) &&& (4294967295 : Int64))) = X at *
  obtain ⟨s1, s2, s3, s4, s5, s6, s7, s8, s9, s10, s11⟩ := h
  have hS : Sim k m := ⟨s1, s2, s3, s4, s5, s6, s7, s8, s9, s10, s11⟩
  by_cases c0 : a < 0
  · rw [if_pos c0] at hK
    refine po_t c0 ?_
    have ne : ∀ n : Int32, 0 ≤ n → ¬ a = n := fun n hn e => by
      rw [e, Int32.lt_iff_toInt_lt] at c0
      rw [Int32.le_iff_toInt_le] at hn
      omega
    unfold k_Co_set_30 at hK
    rw [if_neg (ne 16 (by decide)), if_neg (ne 17 (by decide)), if_neg (ne 18 (by decide)), if_neg (ne 19 (by decide)), if_neg (ne 20 (by decide)), if_neg (ne 21 (by decide))] at hK
    cases hK
    exact po_s ⟨rfl, hS⟩
  · rw [if_neg c0] at hK
    refine po_f c0 ?_
    by_cases c16 : 16 ≤ a
    · rw [if_pos c16] at hK
      by_cases e16 : a = 16
      · subst e16
        cases hK
        exact po_s ⟨rfl, s1, rfl, s3, s4, s5, s6, s7, s8, s9, s10, s11⟩
      by_cases e17 : a = 17
      · subst e17
        cases hK
        exact po_s ⟨rfl, s1, s2, rfl, s4, s5, s6, s7, s8, s9, s10, s11⟩
      by_cases e18 : a = 18
      · subst e18
        cases hK
        exact po_s ⟨rfl, s1, s2, s3, rfl, s5, s6, s7, s8, s9, s10, s11⟩
      by_cases e19 : a = 19
      · subst e19
        cases hK
        exact po_s ⟨rfl, s1, s2, s3, s4, rfl, s6, s7, s8, s9, s10, s11⟩
      by_cases e20 : a = 20
      · subst e20
        cases hK
        have e : k_Mo_set_33 20 X m = (f_Mo_setFlags X m).bind (fun r12 => some (1, r12)) := rfl
        refine po_t (by decide) (po_t (by decide) ?_)
        rw [e, M_setFlags]
        refine po_bs (po_s ⟨rfl, s1, s2, s3, s4, s5, s6, s7, s8, s9, ?_, s11⟩)
        show c &&& 3285 = fw (z_gN (sfF X m) 1)
        rw [← hlo, and_3285]
        exact (fw_of (fb_b rfl) (fb_b rfl) (fb_b rfl) (fb_b rfl) (fb_b rfl) (fb_b rfl) (fb_b rfl)).symm
      by_cases e21 : a = 21
      · subst e21
        cases hK
        exact po_s ⟨rfl, s1, s2, s3, s4, s5, rfl, s7, s8, s9, s10, s11⟩
      unfold k_Co_set_30 at hK
      rw [if_neg e16, if_neg e17, if_neg e18, if_neg e19, if_neg e20, if_neg e21] at hK
      cases hK
      refine po_f (fun z => ?_) (po_s ⟨rfl, hS⟩)
      rw [Int32.le_iff_toInt_le] at z c16
      have z' : a.toInt ≤ 21 := z
      have c' : 16 ≤ a.toInt := c16
      have nn : ∀ n : Int32, ¬ a = n → ¬ a.toInt = n.toInt := fun n hn e => hn (Int32.toInt_inj.mp e)
      have a1 : ¬ a.toInt = 16 := nn 16 e16
      have a2 : ¬ a.toInt = 17 := nn 17 e17
      have a3 : ¬ a.toInt = 18 := nn 18 e18
      have a4 : ¬ a.toInt = 19 := nn 19 e19
      have a5 : ¬ a.toInt = 20 := nn 20 e20
      have a6 : ¬ a.toInt = 21 := nn 21 e21
      omega
    · rw [if_neg c16] at hK
      have lt : a.toInt < 16 := by
        have := Int32.not_le.mp c16
        rw [Int32.lt_iff_toInt_lt] at this
        exact this
      have ge : 0 ≤ a.toInt := by
        have := Int32.not_lt.mp c0
        rw [Int32.le_iff_toInt_le] at this
        exact this
      refine po_t (by rw [Int32.le_iff_toInt_le]; show a.toInt ≤ 21; omega) (po_f c16 ?_)
      refine po_g (fun cb => ?_)
      rw [if_neg cb] at hK
      cases hK
      refine po_n (fun q18 e => ?_)
      have ne : ∀ n : Int32, 16 ≤ n.toInt → ¬ a = n := fun n hn e => by rw [e] at lt; omega
      unfold k_Mo_set_33 k_Mo_set_45 k_Mo_set_57 k_Mo_set_69 k_Mo_set_81 k_Mo_set_93 k_Mo_set_105
      rw [if_neg (ne 16 (by decide)), if_neg (ne 17 (by decide)), if_neg (ne 18 (by decide)), if_neg (ne 19 (by decide)), if_neg (ne 20 (by decide)), if_neg (ne 21 (by decide))]
      refine po_s ⟨rfl, ?_⟩
      rw [e]
      refine ⟨fun i hi => ?_, s2, s3, s4, s5, s6, s7, s8, s9, s10, s11⟩
      show (if i = a.toNatClampNeg then X else z_gM k 0 i) = if i = a.toNatClampNeg then X else z_gM m 0 i
      by_cases ci : i = a.toNatClampNeg
      · rw [if_pos ci, if_pos ci]
      · rw [if_neg ci, if_neg ci]; exact s1 i hi
