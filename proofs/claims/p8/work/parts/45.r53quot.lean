theorem q_step {D e k r Q : Nat} (he : 0 < e) (hD : D / 2 ^ (k + 1) = Q * e + r) (hr : r < e) : (2 * r + D / 2 ^ k % 2 < e → D / 2 ^ k = (2 * Q) * e + (2 * r + D / 2 ^ k % 2)) ∧ (e ≤ 2 * r + D / 2 ^ k % 2 → D / 2 ^ k = (2 * Q + 1) * e + (2 * r + D / 2 ^ k % 2 - e)) := by
  have h1 : D / 2 ^ k = 2 * (D / 2 ^ (k + 1)) + D / 2 ^ k % 2 := by
    have : D / 2 ^ (k + 1) = D / 2 ^ k / 2 := by rw [Nat.pow_succ, Nat.div_div_eq_div_mul]
    rw [this]; omega
  have e1 : 2 * (Q * e) = (2 * Q) * e := (Nat.mul_assoc 2 Q e).symm
  have e2 : (2 * Q + 1) * e = (2 * Q) * e + e := by rw [Nat.add_mul, Nat.one_mul]
  rw [e2, ← e1]
  constructor
  · intro _; omega
  · intro h; omega
theorem nI_m1 : ∀ i, i < 129 → (nI (i + 1) - 1 = nI i) := by decide +kernel
theorem nI_pm1 : ∀ i, i < 129 → (nI i + (-1 : Int32) = nI i - 1) := by decide +kernel
theorem nI_neg1 : ∀ i, i < 129 → (nI i - 1 < 0 ↔ i = 0) := by decide +kernel
abbrev z_QTf : (Int64 × Int32 × Int64 × Int64 × Int64 × Int32 × z_Sg → Option (Int32 × z_Sg)) → Int64 × Int32 × Int64 × Int64 × Int64 × Int32 × z_Sg → Option (Int32 × z_Sg) := fun ih13 a => kb_Mo_quotient_13 ih13 a.1 a.2.1 a.2.2.1 a.2.2.2.1 a.2.2.2.2.1 a.2.2.2.2.2.1 a.2.2.2.2.2.2
theorem M_quot {e l h : Nat} (he : 0 < e) (e64 : e < 2 ^ 64) (l64 : l < 2 ^ 64) (h64 : h < 2 ^ 64) {q : z_Sg} (hl : z_gL q 8 = lN l) (hh : z_gL q 9 = lN h) : ∃ q', f_Mo_quotient (lN e) 64 q = some (b2i (decide ((l + 2 ^ 64 * h) / e < 2 ^ 64)), q') ∧ z_gL q' 8 = lN ((l + 2 ^ 64 * h) / e % 2 ^ 64) ∧ z_gL q' 9 = lN ((l + 2 ^ 64 * h) % e) ∧ fr [8, 9] [] [] [] q q' := by
  have D128 : l + 2 ^ 64 * h < 2 ^ 128 := by omega
  generalize hD : l + 2 ^ 64 * h = D at *
  have bits : ∀ k, k < 64 → D / 2 ^ k % 2 = l / 2 ^ k % 2 := by
    intro k hk
    have h2 : 2 ^ 64 * h = 2 ^ k * (2 * (2 ^ (63 - k) * h)) := by
      rw [← Nat.mul_assoc 2, ← Nat.mul_assoc, show 2 * 2 ^ (63 - k) = 2 ^ (63 - k + 1) by rw [Nat.pow_succ]; omega, ← Nat.pow_add, show k + (63 - k + 1) = 64 by omega]
    rw [← hD, h2, Nat.add_mul_div_left _ _ (Nat.two_pow_pos k)]
    omega
  have bith : ∀ k, k < 64 → D / 2 ^ (k + 64) % 2 = h / 2 ^ k % 2 := by
    intro k hk
    rw [← hD, Nat.pow_add, Nat.mul_comm (2 ^ k), ← Nat.div_div_eq_div_mul, Nat.add_mul_div_left _ _ (by decide), Nat.div_eq_of_lt l64, Nat.zero_add]
  have key : ∀ (f i r lo up : Nat), i ≤ 128 → i < f → r < e → lo < 2 ^ 64 → up < 2 ^ 64 → D / 2 ^ i = (lo + 2 ^ 64 * up) * e + r → ∃ q', z_lo z_QTf f (lN e, 64, lN r, lN up, lN lo, nI i - 1, q) = some (b2i (decide (D / e < 2 ^ 64)), q') ∧ z_gL q' 8 = lN (D / e % 2 ^ 64) ∧ z_gL q' 9 = lN (D % e) ∧ fr [8, 9] [] [] [] q q' := by
    intro f
    induction f with
    | zero => intro i r lo up _ h; omega
    | succ f ih =>
      intro i r lo up hi hf hr lo64 up64 hq
      show ∃ q', kb_Mo_quotient_13 (z_lo z_QTf f) (lN e) 64 (lN r) (lN up) (lN lo) (nI i - 1) q = some (_, q') ∧ _
      generalize z_lo z_QTf f = J at ih ⊢
      unfold kb_Mo_quotient_13
      by_cases c0 : i = 0
      · subst c0
        rw [if_pos ((nI_neg1 0 (by decide)).mpr rfl), po_nm2, po_nm2]
        rw [Nat.pow_zero, Nat.div_one] at hq
        have hQ : D / e = lo + 2 ^ 64 * up := by
          rw [hq, Nat.add_comm, Nat.add_mul_div_right _ _ he, Nat.div_eq_of_lt hr, Nat.zero_add]
        have hR : D % e = r := by
          rw [hq, Nat.add_comm, Nat.add_mul_mod_self_right, Nat.mod_eq_of_lt hr]
        rw [hQ, hR, show (lo + 2 ^ 64 * up) % 2 ^ 64 = lo by omega]
        have hz : lN up = 0 ↔ up = 0 := by rw [uN_0, uN_N up64]
        by_cases cu : up = 0
        · rw [if_pos (hz.mpr cu), if_pos rfl, decide_eq_true (by omega)]
          exact ⟨_, rfl, rfl, rfl, fr_sL (fr_sL fr_0 (by decide)) (by decide)⟩
        · rw [if_neg (fun x => cu (hz.mp x)), decide_eq_false (by omega)]
          exact ⟨_, rfl, rfl, rfl, fr_sL (fr_sL fr_0 (by decide)) (by decide)⟩
      · rw [if_neg (fun x => c0 ((nI_neg1 i (by omega)).mp x))]
        obtain ⟨k, rfl⟩ : ∃ k, i = k + 1 := ⟨i - 1, by omega⟩
        rw [nI_m1 k (by omega)]
        obtain ⟨st1, st2⟩ := q_step he hq hr
        have r64 : r < 2 ^ 64 := by omega
        have hb2 : D / 2 ^ k % 2 < 2 := Nat.mod_lt _ (by decide)
        have hDk : D / 2 ^ k < 2 ^ 128 := Nat.lt_of_le_of_lt (Nat.div_le_self _ _) D128
        have ebit : ∀ t0, k_Mo_quotient_30 J (lN e) 64 (lN r) (lN up) (lN lo) (nI k) t0 q = (if t0 = 0 then (if (lN (2 * r + D / 2 ^ k % 2) + (-9223372036854775808 : Int64)) < (lN e + (-9223372036854775808 : Int64)) then (k_Mo_quotient_93 J (lN e) 64 (lN (2 * r + D / 2 ^ k % 2)) (lN up) (lN lo) (nI k) (0 : Int32) q) else (k_Mo_quotient_93 J (lN e) 64 (lN (2 * r + D / 2 ^ k % 2)) (lN up) (lN lo) (nI k) (1 : Int32) q)) else (k_Mo_quotient_93 J (lN e) 64 (lN (2 * r + D / 2 ^ k % 2)) (lN up) (lN lo) (nI k) (1 : Int32) q)) := by
          intro t0
          unfold k_Mo_quotient_30 k_Mo_quotient_63 k_Mo_quotient_88
          have hle : nI k ≤ (63 : Int32) ↔ k ≤ 63 := by
            rw [show (63 : Int32) = nI 63 from rfl]
            exact nI_leI (by omega) (by omega)
          by_cases c : k ≤ 63
          · rw [if_pos (hle.mpr c), po_nm2, hl, lN_bit l64 (by omega), lN_shl1, lN_or1 _ (by omega), ← bits k (by omega)]
          · have e64' : ∀ k, k < 128 → 64 ≤ k → nI k - (64 : Int32) = nI (k - 64) := by decide +kernel
            rw [if_neg (fun x => c (hle.mp x)), po_nm2, hh, e64' k (by omega) (by omega), lN_bit h64 (by omega), lN_shl1, lN_or1 _ (by omega), ← bith (k - 64) (by omega), show k - 64 + 64 = k by omega]
        have nx : ∀ (tk : Bool) (r' : Nat), r' < e → D / 2 ^ k = (2 * (lo + 2 ^ 64 * up) + (if tk then 1 else 0)) * e + r' → ∃ q', k_Mo_quotient_106 J (lN e) 64 (lN r') (lN up) (lN lo) (nI k) (b2i tk) q = some (b2i (decide (D / e < 2 ^ 64)), q') ∧ z_gL q' 8 = lN (D / e % 2 ^ 64) ∧ z_gL q' 9 = lN (D % e) ∧ fr [8, 9] [] [] [] q q' := by
          intro tk r' hr' hq'
          have hle : (2 * (lo + 2 ^ 64 * up) + (if tk then 1 else 0)) ≤ D / 2 ^ k := by
            rw [hq']
            exact Nat.le_trans (Nat.le_mul_of_pos_right _ he) (Nat.le_add_right _ _)
          have htk : (if tk = true then 1 else 0) < 2 := by split <;> omega
          have e1 : lN (2 * lo) = lN (2 * lo % 2 ^ 64) := wb_mod _
          have goal := ih k r' (2 * lo % 2 ^ 64 + (if tk then 1 else 0)) (2 * up + lo / 2 ^ 63) (by omega) (by omega) hr' (by omega) (by omega) (by rw [hq']; congr 1; congr 1; omega)
          unfold k_Mo_quotient_106 k_Mo_quotient_132
          rw [po_nm2, lN_shl1, show (63 : Int32) = nI 63 from rfl, z_lushr_N lo64 (by decide), lN_shl1, lN_or1 up (b := lo / 2 ^ 63) (by omega)]
          have e2 : ∀ b, b < 2 → lN (2 * lo) ||| lN b = lN (2 * lo % 2 ^ 64 + b) := by
            intro b hb
            rw [lN_or1 _ hb]; exact wN_eq (by omega)
          cases tk with
          | false =>
            rw [if_pos (show b2i false = 0 from rfl), po_nm2, po_nm2, show (0 : Int64) = lN 0 from rfl, e2 0 (by decide), nI_pm1 k (by omega)]
            exact goal
          | true =>
            rw [if_neg (show ¬ b2i true = 0 by decide), po_nm2, po_nm2, show (1 : Int64) = lN 1 from rfl, e2 1 (by decide), nI_pm1 k (by omega)]
            exact goal
        have take : e ≤ 2 * r + D / 2 ^ k % 2 → ∃ q', k_Mo_quotient_93 J (lN e) 64 (lN (2 * r + D / 2 ^ k % 2)) (lN up) (lN lo) (nI k) (1 : Int32) q = some (b2i (decide (D / e < 2 ^ 64)), q') ∧ z_gL q' 8 = lN (D / e % 2 ^ 64) ∧ z_gL q' 9 = lN (D % e) ∧ fr [8, 9] [] [] [] q q' := by
          intro hge
          unfold k_Mo_quotient_93
          rw [if_neg (by decide), po_nm2, wN_sub hge]
          exact nx true (2 * r + D / 2 ^ k % 2 - e) (by omega) (st2 hge)
        have nn := uN_nn (lN r)
        rw [uN_N r64] at nn
        by_cases cn : r < 2 ^ 63
        · rw [if_pos (nn.mpr cn), ebit, if_pos rfl]
          have hlt := ult_a (lN (2 * r + D / 2 ^ k % 2)) (lN e)
          rw [uN_N (by omega), uN_N e64] at hlt
          by_cases cl : 2 * r + D / 2 ^ k % 2 < e
          · rw [if_pos (hlt.mpr cl)]
            unfold k_Mo_quotient_93
            rw [if_pos rfl]
            exact nx false _ cl (st1 cl)
          · rw [if_neg (fun x => cl (hlt.mp x))]
            exact take (by omega)
        · rw [if_neg (fun x => cn (nn.mp x)), ebit, if_neg (by decide)]
          exact take (by omega)
  exact key 2000 128 0 0 0 (by omega) (by omega) he (by omega) (by omega) (by rw [Nat.div_eq_of_lt D128]; omega)
theorem nI_lt0 : ∀ i, i ≤ 64 → (nI i - 1 < 0 ↔ i = 0) := by decide +kernel
theorem lN_orp {a k : Nat} (hk : k < 64) : lN (a * 2 ^ (k + 1)) ||| z_lshl 1 (nI k) = lN ((2 * a + 1) * 2 ^ k) := by
  have e : (2 * a + 1) * 2 ^ k = 2 ^ (k + 1) * a + 2 ^ k := by rw [Nat.pow_succ, Nat.add_mul, Nat.one_mul, Nat.mul_comm (2 ^ k * 2), Nat.mul_comm 2 a, Nat.mul_assoc, Nat.mul_comm 2 (2 ^ k)]
  have h1 : z_lshl 1 (nI k) = lN (2 ^ k) := by
    have := z_lshl_N 1 hk
    rw [Nat.one_mul] at this
    exact this
  rw [h1, e, Nat.mul_comm a]
  refine tb_ext (fun i hi => ?_)
  have hlt : 2 ^ k < 2 ^ (k + 1) := Nat.pow_lt_pow_right (by decide) (by omega)
  rw [tb_or, tb_N, tb_N, tb_N, decide_eq_true hi, Bool.true_and, Bool.true_and, Bool.true_and, Nat.two_pow_add_eq_or_of_lt hlt, Nat.testBit_or]
abbrev z_DMf : (Int64 × Int64 × Int64 × Int64 × Int32 × z_Sg → Option z_Sg) → Int64 × Int64 × Int64 × Int64 × Int32 × z_Sg → Option z_Sg := fun ih12 a => kb_Wi_divideMagnitudes_12 ih12 a.1 a.2.1 a.2.2.1 a.2.2.2.1 a.2.2.2.2.1 a.2.2.2.2.2
theorem K_dm {t b e s : Nat} (hs : s ≤ 64) (hte : t < e) (e64 : e < 2 ^ 64) (hb : b < 2 ^ s) (q : z_Sg) : ∃ q', f_Wi_divideMagnitudes (lN t) (lN b) (lN e) (nI s) q = some q' ∧ z_gL q' 11 = lN ((t * 2 ^ s + b) / e) ∧ z_gL q' 12 = lN ((t * 2 ^ s + b) % e) ∧ fr [11, 12] [] [] [] q q' := by
  have he : 0 < e := by omega
  have b64 : b < 2 ^ 64 := Nat.lt_of_lt_of_le hb (Nat.pow_le_pow_right (by decide) hs)
  generalize hD : t * 2 ^ s + b = D
  have bits : ∀ k, k < s → D / 2 ^ k % 2 = b / 2 ^ k % 2 := by
    intro k hk
    have h2 : t * 2 ^ s = 2 ^ k * (2 * (2 ^ (s - k - 1) * t)) := by
      rw [← Nat.mul_assoc 2, ← Nat.mul_assoc, show 2 * 2 ^ (s - k - 1) = 2 ^ (s - k - 1 + 1) by rw [Nat.pow_succ]; omega, ← Nat.pow_add, show k + (s - k - 1 + 1) = s by omega, Nat.mul_comm]
    rw [← hD, h2, Nat.add_comm, Nat.add_mul_div_left _ _ (Nat.two_pow_pos k)]
    omega
  have key : ∀ (f i r Q : Nat), i ≤ s → i < f → r < e → D / 2 ^ i = Q * e + r → ∃ q', z_lo z_DMf f (lN b, lN e, lN (Q * 2 ^ i), lN r, nI i - 1, q) = some q' ∧ z_gL q' 11 = lN (D / e) ∧ z_gL q' 12 = lN (D % e) ∧ fr [11, 12] [] [] [] q q' := by
    intro f
    induction f with
    | zero => intro i r Q _ h; omega
    | succ f ih =>
      intro i r Q hi hf hr hq
      show ∃ q', kb_Wi_divideMagnitudes_12 (z_lo z_DMf f) (lN b) (lN e) (lN (Q * 2 ^ i)) (lN r) (nI i - 1) q = some q' ∧ _
      generalize z_lo z_DMf f = J at ih ⊢
      unfold kb_Wi_divideMagnitudes_12
      by_cases c0 : i = 0
      · subst c0
        rw [if_pos ((nI_lt0 0 (by decide)).mpr rfl), po_nm2, po_nm2]
        rw [Nat.pow_zero, Nat.div_one] at hq
        have hQ : D / e = Q := by
          rw [hq, Nat.add_comm, Nat.add_mul_div_right _ _ he, Nat.div_eq_of_lt hr, Nat.zero_add]
        have hR : D % e = r := by
          rw [hq, Nat.add_comm, Nat.add_mul_mod_self_right, Nat.mod_eq_of_lt hr]
        rw [hQ, hR, Nat.pow_zero, Nat.mul_one]
        exact ⟨_, rfl, rfl, rfl, fr_sL (fr_sL fr_0 (by decide)) (by decide)⟩
      · rw [if_neg (fun x => c0 ((nI_lt0 i (by omega)).mp x))]
        obtain ⟨k, rfl⟩ : ∃ k, i = k + 1 := ⟨i - 1, by omega⟩
        rw [nI_m1 k (by omega)]
        obtain ⟨st1, st2⟩ := q_step he hq hr
        have r64 : r < 2 ^ 64 := by omega
        have hb2 : D / 2 ^ k % 2 < 2 := Nat.mod_lt _ (by decide)
        have e6 : (z_lshl (lN r) (1 : Int32)) ||| ((z_lushr (lN b) (nI k)) &&& (1 : Int64)) = lN (2 * r + D / 2 ^ k % 2) := by
          rw [lN_bit b64 (by omega), lN_shl1, lN_or1 _ (by omega), bits k (by omega)]
        have take : e ≤ 2 * r + D / 2 ^ k % 2 → ∃ q', k_Wi_divideMagnitudes_59 J (lN b) (lN e) (lN (Q * 2 ^ (k + 1))) (lN (2 * r + D / 2 ^ k % 2)) (nI k) q = some q' ∧ z_gL q' 11 = lN (D / e) ∧ z_gL q' 12 = lN (D % e) ∧ fr [11, 12] [] [] [] q q' := by
          intro hge
          unfold k_Wi_divideMagnitudes_59 k_Wi_divideMagnitudes_75
          rw [po_nm2, po_nm2, po_nm2, wN_sub hge, lN_orp (by omega), nI_pm1 k (by omega)]
          exact ih k _ (2 * Q + 1) (by omega) (by omega) (by omega) (st2 hge)
        have nn := uN_nn (lN r)
        rw [uN_N r64] at nn
        unfold k_Wi_divideMagnitudes_29
        by_cases cn : r < 2 ^ 63
        · rw [if_pos (nn.mpr cn), po_nm2, e6, if_pos rfl, K_isBelow, po_bs2, uN_N (by omega), uN_N e64]
          by_cases cl : 2 * r + D / 2 ^ k % 2 < e
          · rw [decide_eq_true cl, if_neg (show ¬ b2i true = 0 by decide)]
            unfold k_Wi_divideMagnitudes_75
            rw [po_nm2, nI_pm1 k (by omega)]
            have := ih k _ (2 * Q) (by omega) (by omega) cl (st1 cl)
            rw [show 2 * Q * 2 ^ k = Q * 2 ^ (k + 1) by rw [Nat.pow_succ, Nat.mul_comm 2 Q, Nat.mul_assoc, Nat.mul_comm 2]] at this
            exact this
          · rw [decide_eq_false cl, if_pos (show b2i false = 0 from rfl)]
            exact take (by omega)
        · rw [if_neg (fun x => cn (nn.mp x)), po_nm2, e6, if_neg (by decide)]
          exact take (by omega)
  unfold f_Wi_divideMagnitudes k_Wi_divideMagnitudes_12
  rw [po_nm2]
  have hD0 : D / 2 ^ s = t := by
    rw [← hD, Nat.add_comm, Nat.add_mul_div_right _ _ (Nat.two_pow_pos s), Nat.div_eq_of_lt hb, Nat.zero_add]
  have := key 2000 s t 0 (Nat.le_refl _) (by omega) hte (by rw [hD0]; omega)
  rw [Nat.zero_mul] at this
  exact this
