theorem M_div {m : z_Sg} {n u l x : Nat} (hn : n = 1 ∨ n = 2 ∨ n = 4 ∨ n = 8) (hu : u < 2 ^ (8 * n)) (hl : l < 2 ^ (8 * n)) (hx : x < 2 ^ (8 * n)) (sg : Bool) (hA : f_Mo_get8 0 (if n = 1 then 2 else nI n) m = some (lN (if n = 1 then u * 2 ^ 8 + l else l))) (hU : n ≠ 1 → z_gM m 0 2 &&& mk n = lN u) : (¬ dvK sg u l x n → e_f_Mo_divide (lN x) (nI n) (b2i sg) m = some (.inl (0, z_gL m 5, z_gI m 0))) ∧ (dvK sg u l x n → ∃ m3, e_f_Mo_divide (lN x) (nI n) (b2i sg) m = (k_Mo_divide_404 (nI n) (if dvO sg u x n then -lN (dvD sg u l n / dvM sg x n) else lN (dvD sg u l n / dvM sg x n)) (if dvG sg u n then -lN (dvD sg u l n % dvM sg x n) else lN (dvD sg u l n % dvM sg x n)) m3).bind (fun o => some (.inr o)) ∧ fr [8, 9] [] [] [] m m3) := by
  have h1 : 1 ≤ n := by omega
  have hh8 : n ≤ 8 := by omega
  have hN : 2 ^ (8 * n) ≤ 2 ^ 64 := Nat.pow_le_pow_right (by decide) (by omega)
  have e2 : 2 ^ (8 * n) = 2 * 2 ^ (8 * n - 1) := by rw [← Nat.pow_succ']; congr 1; omega
  have hpos : 0 < 2 ^ (8 * n - 1) := Nat.two_pow_pos _
  have b2' : ¬ z_bad (2 : Int32) 16 := by decide
  obtain ⟨b1, b2, b3, b4⟩ := dvD_lt (sg := sg) hn hu hl
  have hz : lN x = 0 ↔ x = 0 := by rw [uN_0, uN_N (by omega)]
  unfold e_f_Mo_divide
  by_cases cx : x = 0
  · rw [if_pos (hz.mpr cx), r_refuse 0 (by decide)]
    refine ⟨fun _ => rfl, fun h => ?_⟩
    exfalso
    have := h.1
    unfold dvM at this
    have hg : dvG sg x n = false := by
      unfold dvG
      rw [decide_eq_false (by omega), Bool.and_false]
    rw [hg] at this
    have : 0 < x := this
    omega
  · rw [if_neg (fun z => cx (hz.mp z)), po_nm2]
    have e39 : (if nI n = (1 : Int32) then (e_k_Mo_divide_39 (lN x) (nI n) (b2i sg) ((8 : Int32) * nI n) (0 : Int32) (2 : Int32) m) else (e_k_Mo_divide_39 (lN x) (nI n) (b2i sg) ((8 : Int32) * nI n) (0 : Int32) (nI n) m)) = e_k_Mo_divide_39 (lN x) (nI n) (b2i sg) ((8 : Int32) * nI n) 0 (if n = 1 then 2 else nI n) m := by
      by_cases c1 : n = 1
      · rw [if_pos (show nI n = 1 by rw [c1]; rfl), if_pos c1]
      · rw [if_neg (show ¬ nI n = 1 by rcases hn with rfl | rfl | rfl | rfl <;> first | exact absurd rfl c1 | decide), if_neg c1]
    rw [e39]
    unfold e_k_Mo_divide_39
    rw [hA, po_bs2]
    by_cases c8 : n = 8
    · subst c8
      rw [if_pos (show nI 8 = (8 : Int32) from rfl), if_neg b2']
      have eU : z_gM m 0 2 = lN u := by have := hU (by decide); rw [and_m1] at this; exact this
      show (_ → e_k_Mo_divide_61 (lN x) (nI 8) (b2i sg) _ (lN l) (z_gM m 0 2) m = _) ∧ (_ → ∃ m3, e_k_Mo_divide_61 (lN x) (nI 8) (b2i sg) _ (lN l) (z_gM m 0 2) m = _ ∧ _)
      rw [eU]
      have e145 : e_k_Mo_divide_61 (lN x) (nI 8) (b2i sg) ((8 : Int32) * nI 8) (lN l) (lN u) m = e_k_Mo_divide_145 (lN x) (nI 8) (b2i sg) (z_sL (z_sL m 9 (lN u)) 8 (lN l)) := by
        unfold e_k_Mo_divide_61 e_k_Mo_divide_76 e_k_Mo_divide_97
        rw [po_nm2, if_neg (by decide), if_pos (show nI 8 = (8 : Int32) from rfl), po_nm2]
        cases sg
        · rw [if_pos (show b2i false = 0 from rfl)]
        · rw [if_neg (show ¬ b2i true = 0 by decide), if_pos (show (8 : Int32) ≤ nI 8 by decide)]
      rw [e145]
      have hVV : u * 2 ^ 64 + l = if dvG sg u 8 then 2 ^ 128 - dvD sg u l 8 else dvD sg u l 8 := by
        unfold dvD
        rw [show 8 * 8 = 64 from rfl] at b2 ⊢
        cases dvG sg u 8 with
        | false => rw [if_neg (by decide), if_neg (by decide)]
        | true =>
          rw [if_pos rfl, if_pos rfl]
          omega
      refine M_div145 (fr_sL (fr_sL fr_0 (by decide)) (by decide)) hn hu hl hx (by omega) sg hVV ?_ ?_ (fun hsg => ?_)
      · show lN l = _; exact wN_eq (by omega)
      · show lN u = _; exact congrArg lN (by omega)
      · unfold dvG
        rw [hsg, Bool.true_and, decide_eq_true_iff]
        omega
    · have n8 : ¬ nI n = (8 : Int32) := by rcases hn with rfl | rfl | rfl | rfl <;> first | decide | exact absurd rfl c8
      have hNN : 2 ^ (8 * n) * 2 ^ (8 * n) ≤ 2 ^ 64 := by rcases hn with rfl | rfl | rfl | rfl <;> first | decide | exact absurd rfl c8
      rw [if_neg n8]
      have e97 : e_k_Mo_divide_61 (lN x) (nI n) (b2i sg) ((8 : Int32) * nI n) (lN (if n = 1 then u * 2 ^ 8 + l else l)) 0 m = e_k_Mo_divide_97 (lN x) (nI n) (b2i sg) (lN (u * 2 ^ (8 * n) + l)) (z_sL m 9 0) := by
        unfold e_k_Mo_divide_61 e_k_Mo_divide_76
        rw [po_nm2]
        by_cases c1 : n = 1
        · subst c1
          rw [if_pos (show nI 1 = (1 : Int32) from rfl), if_pos rfl, show 8 * 1 = 8 from rfl]
        · have n1 : ¬ nI n = (1 : Int32) := by rcases hn with rfl | rfl | rfl | rfl <;> first | decide | exact absurd rfl c1
          rw [if_neg n1, if_neg n8, if_neg b2', M_lowest _ hh8, po_bs2, if_neg c1, (z_64m h1 hh8).2.1]
          show e_k_Mo_divide_97 (lN x) (nI n) (b2i sg) ((z_lshl (z_gM m 0 2 &&& mk n) (nI (8 * n))) ||| lN l) (z_sL m 9 0) = _
          rw [hU c1, z_lshl_N u (by omega), wb_or (by omega) (by omega)]
          have e9 : u * 2 ^ (8 * n) ||| l = u * 2 ^ (8 * n) + l := by rw [Nat.mul_comm, Nat.two_pow_add_eq_or_of_lt hl]
          rw [e9]
      rw [e97]
      unfold e_k_Mo_divide_97
      rw [po_nm2]
      have e4 : 2 ^ (8 * n) * 2 ^ (8 * n) = 2 ^ (8 * (2 * n)) := by rw [← Nat.pow_add]; congr 1; omega
      have e5 : 2 ^ (8 * (2 * n) - 1) = 2 ^ (8 * n - 1) * 2 ^ (8 * n) := by rw [← Nat.pow_add]; congr 1; omega
      have hge : 2 ^ (8 * (2 * n) - 1) ≤ u * 2 ^ (8 * n) + l ↔ 2 ^ (8 * n - 1) ≤ u := by
        rw [e5]
        constructor
        · intro z
          refine Nat.le_of_not_lt (fun w => ?_)
          have : (u + 1) * 2 ^ (8 * n) ≤ 2 ^ (8 * n - 1) * 2 ^ (8 * n) := Nat.mul_le_mul_right _ w
          rw [Nat.add_mul, Nat.one_mul] at this
          omega
        · intro z
          have : 2 ^ (8 * n - 1) * 2 ^ (8 * n) ≤ u * 2 ^ (8 * n) := Nat.mul_le_mul_right _ z
          omega
      cases hsg : sg with
      | false =>
        rw [if_pos (show b2i false = 0 from rfl)]
        rw [hsg] at b1 b3
        have hd : dvD false u l n = u * 2 ^ (8 * n) + l := rfl
        refine M_div145 (V := u * 2 ^ (8 * n) + l) (fr_sL (fr_sL fr_0 (by decide)) (by decide)) hn hu hl hx (by omega) false (by rw [hd, show dvG false u n = false from rfl, if_neg (by decide)]) ?_ ?_ (fun z => by cases z)
        · show lN (u * 2 ^ (8 * n) + l) = _; exact wb_mod _
        · show (0 : Int64) = _; rw [Nat.div_eq_of_lt (by omega)]; rfl
      | true =>
        rw [if_neg (show ¬ b2i true = 0 by decide)]
        have le8 : ¬ (8 : Int32) ≤ nI n := by rcases hn with rfl | rfl | rfl | rfl <;> first | decide | exact absurd rfl c8
        have e2n : (2 : Int32) * nI n = nI (2 * n) := by rcases hn with rfl | rfl | rfl | rfl <;> rfl
        rw [if_neg le8, e2n, M_extended _ (by omega) (by omega), po_bs2, po_nm2]
        show (_ → (if (0 : Int64) ≤ sx (lN (u * 2 ^ (8 * n) + l)) (2 * n) then _ else _) = _) ∧ (_ → ∃ m3, (if (0 : Int64) ≤ sx (lN (u * 2 ^ (8 * n) + l)) (2 * n) then _ else _) = _ ∧ _)
        have hlt2 : u * 2 ^ (8 * n) + l < 2 ^ (8 * (2 * n)) := by rw [← e4]; exact b2
        have nn := sx_nonneg_N (n := 2 * n) (by omega) (by omega) hlt2
        rw [hsg] at b1 b3
        unfold e_k_Mo_divide_142
        have sxe := sx_N (s := 2 * n) (by omega) (by omega) hlt2
        have es8 : ∀ v, z_gL (z_sL (z_sL (z_sL (z_sL m 9 0) 8 (lN (u * 2 ^ (8 * n) + l))) 8 (sx (lN (u * 2 ^ (8 * n) + l)) (2 * n))) 9 v) 8 = sx (lN (u * 2 ^ (8 * n) + l)) (2 * n) := fun _ => rfl
        have frx : ∀ v, fr [8, 9] [] [] [] m (z_sL (z_sL (z_sL (z_sL m 9 0) 8 (lN (u * 2 ^ (8 * n) + l))) 8 (sx (lN (u * 2 ^ (8 * n) + l)) (2 * n))) 9 v) := fun _ => fr_sL (fr_sL (fr_sL (fr_sL fr_0 (by decide)) (by decide)) (by decide)) (by decide)
        by_cases cn : 2 ^ (8 * n - 1) ≤ u
        · have hg : dvG true u n = true := by unfold dvG; rw [decide_eq_true cn]; rfl
          have hdd : dvD true u l n = 2 ^ (8 * n) * 2 ^ (8 * n) - (u * 2 ^ (8 * n) + l) := by unfold dvD; rw [hg, if_pos rfl]
          rw [if_neg (fun z => nn.mp z (hge.mpr cn)), po_nm2]
          rw [if_pos (hge.mpr cn)] at sxe
          have hd0 := b3 hg
          refine M_div145 (V := 2 ^ 128 - dvD true u l n) (frx (-1)) hn hu hl hx (by omega) true (by rw [hg, if_pos rfl]) ?_ ?_ (fun _ => ?_)
          · rw [es8, sxe]
            refine wN_eq ?_
            rw [← e4, hdd]
            omega
          · show (-1 : Int64) = _
            have : (2 ^ 128 - dvD true u l n) / 2 ^ 64 = 2 ^ 64 - 1 := by omega
            rw [this]; rfl
          · exact ⟨fun _ => by omega, fun _ => hg⟩
        · have hg : dvG true u n = false := by unfold dvG; rw [decide_eq_false cn]; rfl
          have hdd : dvD true u l n = u * 2 ^ (8 * n) + l := by unfold dvD; rw [hg]; rfl
          rw [if_pos (nn.mpr (fun z => cn (hge.mp z))), po_nm2]
          rw [if_neg (fun z => cn (hge.mp z))] at sxe
          refine M_div145 (V := u * 2 ^ (8 * n) + l) (frx 0) hn hu hl hx (by omega) true (by rw [hg, hdd, if_neg (by decide)]) ?_ ?_ (fun _ => ?_)
          · rw [es8, sxe]; exact wb_mod _
          · show (0 : Int64) = _; rw [Nat.div_eq_of_lt (by omega)]; rfl
          · rw [hg]
            constructor
            · intro z; cases z
            · intro z
              rw [Nat.div_eq_of_lt (by omega)] at z
              exact absurd z (by decide)
