theorem K_stored (x : Int32) (q : z_Sg) : f_Co_stored x q = some (asm (fun k => kB (z_gM q 1) (x.toInt64 + (nI k).toInt64)) 8) := by
  unfold f_Co_stored k_Co_stored_5
  have := z_lo_ok (F := fun ih5 (a : Int32 × Int64 × Int32) => kb_Co_stored_5 ih5 a.1 a.2.1 a.2.2 q) (fun a => a.1 = x ∧ ∃ k, k ≤ 8 ∧ a.2.2 = nI k ∧ a.2.1 = asm (fun k => kB (z_gM q 1) (x.toInt64 + (nI k).toInt64)) k) (fun a => 8 - a.2.2.toNatClampNeg) (fun v => v = asm (fun k => kB (z_gM q 1) (x.toInt64 + (nI k).toInt64)) 8) ?_ 2000 (x, 0, 0) ⟨rfl, 0, by omega, rfl, rfl⟩ (by show 8 - (0 : Int32).toNatClampNeg < 2000; decide)
  · obtain ⟨b, h1, h2⟩ := this
    rw [h1, h2]
  · rintro ih ⟨a1, a2, a3⟩ ⟨rfl, k, hk, e3, e2⟩ hih
    dsimp only at e3 e2 hih ⊢
    subst e3 e2
    unfold kb_Co_stored_5
    by_cases h8 : 8 ≤ k
    · have : k = 8 := by omega
      subst this
      rw [if_pos (by decide)]
      exact ⟨_, rfl, rfl⟩
    · rw [if_neg (fun h => h8 ((z_i8 (by omega)).mp h)), K_byteAt]
      show ∃ b, ih (_, _, nI k + 1) = some b ∧ _
      rw [nI_S]
      refine hih _ ⟨rfl, k + 1, by omega, rfl, rfl⟩ ?_
      show 8 - (nI (k + 1)).toNatClampNeg < 8 - (nI k).toNatClampNeg
      rw [z_clp (by omega), z_clp (by omega)]
      omega
theorem stored_r {k m : z_Sg} (h : Sim k m) (a : Int32) {v : Int64} (hK : f_Co_stored a k = some v) : z_po (f_Mo_stored a m) (fun w => v = w) := by
  rw [K_stored] at hK
  have ev := Option.some.inj hK
  have eM : f_Mo_stored a m = (f_Mo_eight (a.toInt64) m).bind (fun r1 => some r1) := rfl
  rw [eM, M_eight]
  refine po_bs (po_s ?_)
  rw [← ev]
  exact asm_congr (fun i _ => Sim_m h _)
theorem getc_r {k m : z_Sg} (h : Sim k m) (a : Int32) {v : Int64} (hK : f_Co_get a k = some v) : z_po (f_Mo_get a m) (fun w => v = w) := by
  unfold f_Co_get at hK
  unfold f_Mo_get k_Mo_get_10
  by_cases c0 : a < 0
  · rw [if_pos c0] at hK
    have ne : ∀ n : Int32, 0 ≤ n → ¬ a = n := fun n hn e => by
      rw [e, Int32.lt_iff_toInt_lt] at c0
      rw [Int32.le_iff_toInt_le] at hn
      omega
    unfold k_Co_get_20 at hK
    rw [if_neg (ne 16 (by decide)), if_neg (ne 17 (by decide)), if_neg (ne 18 (by decide)), if_neg (ne 19 (by decide)), if_neg (ne 20 (by decide)), if_neg (ne 21 (by decide)), if_neg (ne 22 (by decide)), if_neg (ne 23 (by decide)), if_neg (ne 24 (by decide))] at hK
    exact po_t c0 (po_s (Option.some.inj hK).symm)
  · rw [if_neg c0] at hK
    refine po_f c0 ?_
    by_cases c16 : 16 ≤ a
    · rw [if_pos c16] at hK
      unfold k_Co_get_20 at hK
      by_cases e16 : a = 16
      · rw [if_pos e16] at hK
        refine po_t (by rw [e16]; decide) (po_t c16 (po_t e16 (po_s ?_)))
        rw [← Option.some.inj hK]
        exact Sim_0 h
      rw [if_neg e16] at hK
      by_cases e17 : a = 17
      · rw [if_pos e17] at hK
        refine po_t (by rw [e17]; decide) (po_t c16 (po_f e16 (po_t e17 (po_s ?_))))
        rw [← Option.some.inj hK]
        exact Sim_1 h
      rw [if_neg e17] at hK
      by_cases e18 : a = 18
      · rw [if_pos e18] at hK
        refine po_t (by rw [e18]; decide) (po_t c16 (po_f e16 (po_f e17 (po_t e18 (po_s ?_)))))
        rw [← Option.some.inj hK]
        exact Sim_2 h
      rw [if_neg e18] at hK
      by_cases e19 : a = 19
      · rw [if_pos e19] at hK
        refine po_t (by rw [e19]; decide) (po_t c16 (po_f e16 (po_f e17 (po_f e18 (po_t e19 (po_s ?_))))))
        rw [← Option.some.inj hK]
        exact Sim_3 h
      rw [if_neg e19] at hK
      by_cases e20 : a = 20
      · rw [if_pos e20] at hK
        refine po_t (by rw [e20]; decide) (po_t c16 (po_f e16 (po_f e17 (po_f e18 (po_f e19 (po_t e20 ?_))))))
        rw [M_flags]
        refine po_bs (po_s ?_)
        rw [← Option.some.inj hK, Sim_f h]
      rw [if_neg e20] at hK
      by_cases e21 : a = 21
      · rw [if_pos e21] at hK
        refine po_t (by rw [e21]; decide) (po_t c16 (po_f e16 (po_f e17 (po_f e18 (po_f e19 (po_f e20 (po_t e21 (po_s ?_))))))))
        rw [← Option.some.inj hK]
        exact Sim_4 h
      rw [if_neg e21] at hK
      by_cases e22 : a = 22
      · rw [if_pos e22] at hK
        refine po_t (by rw [e22]; decide) (po_t c16 (po_f e16 (po_f e17 (po_f e18 (po_f e19 (po_f e20 (po_f e21 (po_t e22 (po_s ?_)))))))))
        rw [← Option.some.inj hK]
        exact Sim_5 h
      rw [if_neg e22] at hK
      by_cases e23 : a = 23
      · rw [if_pos e23] at hK
        refine po_t (by rw [e23]; decide) (po_t c16 (po_f e16 (po_f e17 (po_f e18 (po_f e19 (po_f e20 (po_f e21 (po_f e22 (po_t e23 (po_s ?_))))))))))
        rw [← Option.some.inj hK, Sim_c h]
      rw [if_neg e23] at hK
      by_cases e24 : a = 24
      · rw [if_pos e24] at hK
        refine po_t (by rw [e24]; decide) (po_t c16 (po_f e16 (po_f e17 (po_f e18 (po_f e19 (po_f e20 (po_f e21 (po_f e22 (po_f e23 ?_)))))))))
        rw [← Sim_u h]
        unfold k_Co_get_155 at hK
        unfold k_Mo_get_127
        by_cases cu : z_gI k 2 = 0
        · rw [if_pos cu] at hK
          exact po_t cu (po_s (Option.some.inj hK).symm)
        · rw [if_neg cu] at hK
          exact po_f cu (po_s (Option.some.inj hK).symm)
      rw [if_neg e24] at hK
      refine po_f (fun z => ?_) (po_s (Option.some.inj hK).symm)
      rw [Int32.le_iff_toInt_le] at z c16
      have z' : a.toInt ≤ 24 := z
      have c' : 16 ≤ a.toInt := c16
      have nn : ∀ n : Int32, ¬ a = n → ¬ a.toInt = n.toInt := fun n hn e => hn (Int32.toInt_inj.mp e)
      have a1 : ¬ a.toInt = 16 := nn 16 e16
      have a2 : ¬ a.toInt = 17 := nn 17 e17
      have a3 : ¬ a.toInt = 18 := nn 18 e18
      have a4 : ¬ a.toInt = 19 := nn 19 e19
      have a5 : ¬ a.toInt = 20 := nn 20 e20
      have a6 : ¬ a.toInt = 21 := nn 21 e21
      have a7 : ¬ a.toInt = 22 := nn 22 e22
      have a8 : ¬ a.toInt = 23 := nn 23 e23
      have a9 : ¬ a.toInt = 24 := nn 24 e24
      omega
    · rw [if_neg c16] at hK
      have lt : a.toInt < 16 := by
        have := Int32.not_le.mp c16
        rw [Int32.lt_iff_toInt_lt] at this
        exact this
      have ge : 0 ≤ a.toInt := by
        have := Int32.not_lt.mp c0
        rw [Int32.le_iff_toInt_le] at this
        exact this
      refine po_t (by rw [Int32.le_iff_toInt_le]; show a.toInt ≤ 24; omega) (po_f c16 ?_)
      refine po_g (fun cb => po_s ?_)
      rw [if_neg cb] at hK
      rw [← Option.some.inj hK]
      have hn : a.toNatClampNeg < 16 := by
        show a.toInt.toNat < 16
        omega
      exact Sim_r h hn
