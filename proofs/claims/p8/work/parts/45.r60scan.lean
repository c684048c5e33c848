theorem bc_q (x : Int64) (q : z_Sg) : f_Lo_bitCount x q = f_Lo_bitCount x z_q0 := rfl
theorem bc_t : ∀ k, k < 65 → f_Lo_bitCount (lN (2 ^ k - 1)) z_q0 = some (nI k) := by decide +kernel
theorem bc_n {k : Nat} (hk : k ≤ 64) (q : z_Sg) : f_Lo_bitCount (lN (2 ^ k - 1)) q = some (nI k) := (bc_q _ q).trans (bc_t k (by omega))
def loB (v : Int64) (i : Nat) : Prop := i < 64 ∧ tb v i = true ∧ ∀ j, j < i → tb v j = false
def hiB (v : Int64) (i : Nat) : Prop := i < 64 ∧ tb v i = true ∧ ∀ j, i < j → j < 64 → tb v j = false
theorem K_lowest {v : Int64} {i : Nat} (h : loB v i) (q : z_Sg) : f_Tw_lowestBit v q = some (nI i) := by
  obtain ⟨hi, h1, h2⟩ := h
  have hbr : ∀ j, j ≤ 64 → br 0 v false j = decide (i < j) := by
    intro j
    induction j with
    | zero => intro _; rfl
    | succ j ih =>
      intro hj
      show ((!tb 0 j && tb v j) || (!(tb 0 j ^^ tb v j) && br 0 v false j)) = _
      rw [tb_0, ih (by omega)]
      by_cases c1 : j < i
      · rw [h2 j c1, decide_eq_false (show ¬ i < j by omega), decide_eq_false (show ¬ i < j + 1 by omega)]; rfl
      · by_cases c2 : j = i
        · subst c2; rw [h1, decide_eq_true (show j < j + 1 by omega)]; rfl
        · rw [decide_eq_true (show i < j by omega), decide_eq_true (show i < j + 1 by omega)]
          cases tb v j <;> rfl
  have en : -v = (0 - v) - bL false := by show -v = (0 - v) - 0; rw [Int64.sub_zero, Int64.zero_sub]
  have e1 : v &&& -v = lN (2 ^ i) := by
    refine tb_ext (fun j hj => ?_)
    rw [tb_and, en, tb_dif _ _ _ j hj, tb_0, hbr j (by omega), tb_pw j hi]
    by_cases c1 : j < i
    · rw [h2 j c1, decide_eq_false (show ¬ j = i by omega)]; rfl
    · by_cases c2 : j = i
      · subst c2; rw [h1, decide_eq_true rfl, decide_eq_false (Nat.lt_irrefl j)]; rfl
      · rw [decide_eq_true (show i < j by omega), decide_eq_false c2]
        cases tb v j <;> rfl
  unfold f_Tw_lowestBit
  rw [e1, show (1 : Int64) = lN 1 from rfl, wN_sub (Nat.one_le_two_pow), bc_n (by omega), po_bs2]
theorem K_highest {v : Int64} {i : Nat} (h : hiB v i) (q : z_Sg) : f_Tw_highestBit v q = some (nI i) := by
  obtain ⟨hi, h1, h2⟩ := h
  have last : ∀ x : Int64, (∀ j, j < 64 → tb x j = decide (j ≤ i)) → (f_Lo_bitCount x q).bind (fun r2 => some (r2 - (1 : Int32))) = some (nI i) := by
    intro x hx
    have : x = lN (2 ^ (i + 1) - 1) := tb_ext (fun j hj => by
      rw [hx j hj, tb_msk j (by omega)]
      exact decide_eq_decide.mpr (by omega))
    rw [this, bc_n (by omega), po_bs2, nI_m1 i (by omega)]
  have key : ∀ (f d : Nat) (x : Int64), (d = 1 ∨ d = 2 ∨ d = 4 ∨ d = 8 ∨ d = 16 ∨ d = 32 ∨ d = 64) → 64 < f * d → (∀ j, j < 64 → tb x j = true → j ≤ i) → (∀ j, j < 64 → j ≤ i → i < j + d → tb x j = true) → z_lo (fun ih5 (a : Int64 × Int32) => kb_Tw_highestBit_5 ih5 a.1 a.2 q) f (x, nI d) = some (nI i) := by
    intro f
    induction f with
    | zero => intro d x _ h; omega
    | succ f ih =>
      intro d x hd hf a1 a2
      show kb_Tw_highestBit_5 _ x (nI d) q = _
      have st : ∀ J, kb_Tw_highestBit_5 J x (nI d) q = if d = 64 then (f_Lo_bitCount x q).bind (fun r2 => some (r2 - (1 : Int32))) else J (x ||| z_lushr x (nI d), nI (d * 2)) := by
        intro J
        unfold kb_Tw_highestBit_5
        rcases hd with rfl | rfl | rfl | rfl | rfl | rfl | rfl <;> rfl
      rw [st]
      by_cases c : d = 64
      · rw [if_pos c]
        refine last x (fun j hj => ?_)
        by_cases cj : j ≤ i
        · rw [decide_eq_true cj]; exact a2 j hj cj (by omega)
        · rw [decide_eq_false cj]
          cases ht : tb x j with
          | false => rfl
          | true => exact absurd (a1 j hj ht) cj
      · rw [if_neg c]
        have d64 : d < 64 := by omega
        refine ih (d * 2) _ (by omega) (by
          have : (f + 1) * d ≤ f * (d * 2) ∨ f = 0 := by
            by_cases f0 : f = 0
            · exact Or.inr f0
            · left
              have : f * (d * 2) = f * d + f * d := by rw [← Nat.mul_assoc]; omega
              rw [this, Nat.add_mul, Nat.one_mul]
              have : d ≤ f * d := Nat.le_mul_of_pos_left d (by omega)
              omega
          rcases this with h | h
          · omega
          · subst h; omega) (fun j hj ht => ?_) (fun j hj c1 c2 => ?_)
        · rw [tb_or, tb_ushr _ _ d64] at ht
          cases hx : tb x j with
          | true => exact a1 j hj hx
          | false =>
            rw [hx, Bool.false_or] at ht
            have hj2 : j + d < 64 := by
              refine Nat.lt_of_not_le (fun z => ?_)
              rw [tb_ge z] at ht; cases ht
            have := a1 (j + d) hj2 ht
            omega
        · rw [tb_or, tb_ushr _ _ d64]
          by_cases c3 : i < j + d
          · rw [a2 j hj c1 c3]; rfl
          · rw [a2 (j + d) (by omega) (by omega) (by omega), Bool.or_true]
  unfold f_Tw_highestBit k_Tw_highestBit_5
  exact key 2000 1 v (Or.inl rfl) (by omega) (fun j hj ht => by
    refine Nat.le_of_not_lt (fun z => ?_)
    rw [h2 j z hj] at ht; cases ht) (fun j hj c1 c2 => by rw [show j = i by omega]; exact h1)
theorem M_scan_l {v : Int64} (x1 : Int32) (q : z_Sg) : (v = 0 → k_Mo_scan_23 x1 v (-1) (-1) 0 q = k_Mo_scan_67 x1 (-1) (-1) 0 q) ∧ (¬ v = 0 → ∃ lo hi, loB v lo ∧ hiB v hi ∧ k_Mo_scan_23 x1 v (-1) (-1) 0 q = k_Mo_scan_67 x1 (nI lo) (nI hi) 0 q) := by
  have nm1 : ∀ j, j < 64 → ¬ nI j = -1 := by decide +kernel
  have key : ∀ (f i : Nat) (a b : Int32), i ≤ 64 → 64 - i < f → ((a = -1 ∧ b = -1 ∧ ∀ j, j < i → tb v j = false) ∨ (∃ lo hi, loB v lo ∧ lo < i ∧ hi < i ∧ tb v hi = true ∧ (∀ j, hi < j → j < i → tb v j = false) ∧ a = nI lo ∧ b = nI hi)) → ∃ a' b', z_lo (fun ih23 (a : Int32 × Int64 × Int32 × Int32 × Int32 × z_Sg) => kb_Mo_scan_23 ih23 a.1 a.2.1 a.2.2.1 a.2.2.2.1 a.2.2.2.2.1 a.2.2.2.2.2) f (x1, v, a, b, nI i, q) = k_Mo_scan_67 x1 a' b' 0 q ∧ ((a' = -1 ∧ b' = -1 ∧ ∀ j, j < 64 → tb v j = false) ∨ (∃ lo hi, loB v lo ∧ hiB v hi ∧ a' = nI lo ∧ b' = nI hi)) := by
    intro f
    induction f with
    | zero => intro i a b _ h; omega
    | succ f ih =>
      intro i a b hi hf hab
      show ∃ a' b', kb_Mo_scan_23 _ x1 v a b (nI i) q = k_Mo_scan_67 x1 a' b' 0 q ∧ _
      have hle : (64 : Int32) ≤ nI i ↔ 64 ≤ i := by
        rw [show (64 : Int32) = nI 64 from rfl]
        exact nI_leI (by omega) (by omega)
      by_cases c : 64 ≤ i
      · have i64 : i = 64 := by omega
        subst i64
        unfold kb_Mo_scan_23
        rw [if_pos (hle.mpr c)]
        refine ⟨a, b, rfl, ?_⟩
        rcases hab with h | ⟨lo, hi', h1, h2, h3, h4, h5, h6, h7⟩
        · exact Or.inl h
        · exact Or.inr ⟨lo, hi', h1, ⟨h3, h4, h5⟩, h6, h7⟩
      · have st : ∀ J, kb_Mo_scan_23 J x1 v a b (nI i) q = if tb v i = true then (if a = -1 then J (x1, v, nI i, nI i, nI (i + 1), q) else J (x1, v, a, nI i, nI (i + 1), q)) else J (x1, v, a, b, nI (i + 1), q) := by
          intro J
          unfold kb_Mo_scan_23 k_Mo_scan_58
          rw [if_neg (fun x => c (hle.mp x))]
          cases ht : tb v i with
          | false => rw [if_pos ((tb_bit0 v (by omega)).mpr ht), po_nm2, nI_S]; rfl
          | true => rw [if_neg (fun x => by rw [(tb_bit0 v (by omega)).mp x] at ht; cases ht), po_nm2, po_nm2, nI_S]; rfl
        rw [st]
        cases ht : tb v i with
        | false =>
          rw [if_neg (by decide)]
          refine ih (i + 1) a b (by omega) (by omega) ?_
          rcases hab with ⟨h1, h2, h3⟩ | ⟨lo, hi', h1, h2, h3, h4, h5, h6, h7⟩
          · refine Or.inl ⟨h1, h2, fun j hj => ?_⟩
            by_cases cj : j = i
            · rw [cj]; exact ht
            · exact h3 j (by omega)
          · refine Or.inr ⟨lo, hi', h1, by omega, by omega, h4, fun j j1 j2 => ?_, h6, h7⟩
            by_cases cj : j = i
            · rw [cj]; exact ht
            · exact h5 j j1 (by omega)
        | true =>
          rw [if_pos rfl]
          rcases hab with ⟨h1, h2, h3⟩ | ⟨lo, hi', h1, h2, h3, h4, h5, h6, h7⟩
          · rw [if_pos h1]
            refine ih (i + 1) _ _ (by omega) (by omega) (Or.inr ⟨i, i, ⟨by omega, ht, h3⟩, by omega, by omega, ht, fun j j1 j2 => by omega, rfl, rfl⟩)
          · rw [if_neg (by rw [h6]; exact nm1 lo h1.1)]
            refine ih (i + 1) _ _ (by omega) (by omega) (Or.inr ⟨lo, i, h1, by omega, by omega, ht, fun j j1 j2 => by omega, h6, rfl⟩)
  obtain ⟨a', b', k1, k2⟩ := key 2000 0 (-1) (-1) (by omega) (by omega) (Or.inl ⟨rfl, rfl, fun j hj => by omega⟩)
  have k1' : k_Mo_scan_23 x1 v (-1) (-1) 0 q = k_Mo_scan_67 x1 a' b' 0 q := k1
  constructor
  · intro h0
    rcases k2 with ⟨h1, h2, _⟩ | ⟨lo, hi, h1, _⟩
    · rw [k1', h1, h2]
    · have := h1.2.1
      rw [h0, tb_0] at this; cases this
  · intro h0
    rcases k2 with ⟨h1, h2, h3⟩ | ⟨lo, hi, h1, h2, h3, h4⟩
    · exact absurd (tb_ext (fun j hj => by rw [h3 j hj, tb_0])) h0
    · exact ⟨lo, hi, h1, h2, by rw [k1', h3, h4]⟩
theorem M_scan67 (x1 a b : Int32) (q : z_Sg) : k_Mo_scan_67 x1 a b 0 q = if a = -1 then k_Mo_scan_108 x1 a b 3 1 (lvF q) else k_Mo_scan_108 x1 a b 3 0 (lvF q) := by
  have s : ∀ (J : Int32 × Int32 × Int32 × Int32 × z_Sg → Option z_Sg) {j : Nat} (hj : j < 7) (h5 : ¬ j = 5) (q : z_Sg), kb_Mo_scan_67 J x1 a b (nI j) q = J (x1, a, b, nI (j + 1), z_sN q 1 j (b2i (tb (z_gL q 4) (fpos j)))) := by
    intro J j hj h5 q
    have c : ∀ j, j < 7 → ¬ j = 5 → ¬ (7 : Int32) ≤ nI j ∧ ¬ nI j = 5 := by decide +kernel
    obtain ⟨c1, c2⟩ := c j hj h5
    unfold kb_Mo_scan_67 k_Mo_scan_86
    rw [if_neg c1, if_neg c2, M_leave hj, po_bs2, po_nm2, nI_S]
  have s5 : ∀ (J : Int32 × Int32 × Int32 × Int32 × z_Sg → Option z_Sg) (q : z_Sg), kb_Mo_scan_67 J x1 a b (nI 5) q = J (x1, a, b, nI 6, q) := by
    intro J q
    unfold kb_Mo_scan_67 k_Mo_scan_86
    rw [if_neg (by decide), if_pos (show nI 5 = 5 from rfl), po_nm2]; rfl
  have s7 : ∀ (J : Int32 × Int32 × Int32 × Int32 × z_Sg → Option z_Sg) (q : z_Sg), kb_Mo_scan_67 J x1 a b (nI 7) q = if a = -1 then k_Mo_scan_108 x1 a b 3 1 q else k_Mo_scan_108 x1 a b 3 0 q := by
    intro J q
    unfold kb_Mo_scan_67
    rw [if_pos (by decide)]
  have key : ∀ (F : (Int32 × Int32 × Int32 × Int32 × z_Sg → Option z_Sg) → Int32 × Int32 × Int32 × Int32 × z_Sg → Option z_Sg) (hF : ∀ J c, F J c = kb_Mo_scan_67 J c.1 c.2.1 c.2.2.1 c.2.2.2.1 c.2.2.2.2) (f : Nat), z_lo F (f + 8) (x1, a, b, nI 0, q) = if a = -1 then k_Mo_scan_108 x1 a b 3 1 (lvF q) else k_Mo_scan_108 x1 a b 3 0 (lvF q) := by
    intro F hF f
    have un : ∀ (f : Nat) (c : Int32 × Int32 × Int32 × Int32 × z_Sg), z_lo F (f + 1) c = kb_Mo_scan_67 (z_lo F f) c.1 c.2.1 c.2.2.1 c.2.2.2.1 c.2.2.2.2 := fun f c => hF _ c
    rw [un, s _ (j := 0) (by decide) (by decide), un, s _ (j := 1) (by decide) (by decide), un, s _ (j := 2) (by decide) (by decide), un, s _ (j := 3) (by decide) (by decide), un, s _ (j := 4) (by decide) (by decide), un, s5, un, s _ (j := 6) (by decide) (by decide), un, s7]
    rfl
  exact key _ (fun _ _ => rfl) 1992
theorem g_scan {k0 k m : z_Sg} {n : Nat} (hc : n = 444 ∨ n = 445) (h : TQ (nI n) k0 k m) : z_r k0 ((k_De_decode_43 (-1) 2 k).bind S1) (e_f_Mo_scan (nI (n - 256)) m) FQQ := by
  have gen : ∀ n, n = 444 ∨ n = 445 → n < 512 ∧ 256 ≤ n ∧ oE n = true ∧ eE n = true ∧ flE n = true ∧ twE n = true ∧ be2E n = true ∧ ¬ n / 16 = 25 := by
    rintro n (rfl | rfl) <;> decide
  obtain ⟨n1, n2, n3, n4, n5, n6, n7, n8⟩ := gen n hc
  have hz := szV_8 (z_gI m 10) (z_gI m 16)
  unfold e_f_Mo_scan
  refine run_o n1 n3 h (fun k2 m1 hq g6 g5 e10 e16 => ?_)
  rw [M_wide, po_bs2, e10, e16]
  refine run_e n1 n4 hq (Or.inl rfl) hz.1 hz.2 ?_ (fun k' e _ => ?_) (fun k3 m3 v q1 q2 q3 q4 q5 q6 q7 q8 q9 q10 => ?_)
  · rw [be_2 n2 n1 n7 hq.1.2.2.2.1, if_neg n8, g6, g5]
  · rcases hc with rfl | rfl <;> (unfold f_Op_isWritten; rw [e]; rfl)
  · refine ex_2 n2 n1 n5 q5 ?_
    rw [tw_s n1 n2 n6 q5]
    have ee : f_Tw_executeSingle (nI (n - 256)) k3 = (f_De_sizeV k3).bind (fun r1 => (f_Op_value k3).bind (fun r41 => (f_Tw_findBit (b2i (decide (n = 444))) r41 r1 k3).bind (fun r42 => k_Tw_executeSingle_320 r42))) := by
      rcases hc with rfl | rfl <;> rfl
    rw [ee, K_sizeV, po_bs2, q6, q7, g6, g5, q3, po_bs2]
    have y10 : z_gI m3 10 = z_gI m 10 := by rw [fr_I q10 10 (by decide)]; exact e10
    have y16 : z_gI m3 16 = z_gI m 16 := by rw [fr_I q10 16 (by decide)]; exact e16
    have hu := EQn_L q1.1.1 (show 4 < 6 by decide)
    have kset : ∀ z : Bool, f_Ar_settle 64 (if z then 64 else 0) 2197 k3 = some (z_sI k3 0 (fwB (tb (z_gL k3 4) 0) (tb (z_gL k3 4) 2) (tb (z_gL k3 4) 4) z (tb (z_gL k3 4) 7) (fb (z_gN m3 1) 5) (tb (z_gL k3 4) 11))) := by
      intro z
      rw [K_set q1.1.2.1 (V := if z then 64 else 0) (show (64 : Int32) = fwB false false false true false false false by decide) (show (2197 : Int32) = fwB true true true false true false true by decide) (c := false) (p := false) (h := false) (z := z) (s := false) (d := false) (o := false) (by cases z <;> decide)]
      simp [sel]
    have fu : ∀ z : Bool, FU k3 m3 (z_sI k3 0 (fwB (tb (z_gL k3 4) 0) (tb (z_gL k3 4) 2) (tb (z_gL k3 4) 4) z (tb (z_gL k3 4) 7) (fb (z_gN m3 1) 5) (tb (z_gL k3 4) 11))) (z_sN (lvF m3) 1 3 (b2i z)) := by
      intro z
      refine ⟨fr_sI fr_0 (by decide), fr_sN (lv_fr m3) (by decide), ?_⟩
      rw [hu]
      refine Eq.trans ?_ (fw_of (f := z_gN (z_sN (lvF m3) 1 3 (b2i z)) 1) (c := tb (z_gL m3 4) 0) (fb_b rfl) (p := tb (z_gL m3 4) 2) (fb_b rfl) (h := tb (z_gL m3 4) 4) (fb_b rfl) (z := z) (fb_b rfl) (s := tb (z_gL m3 4) 7) (fb_b rfl) (d := fb (z_gN m3 1) 5) rfl (o := tb (z_gL m3 4) 11) (fb_b rfl)).symm
      rfl
    have nm1 : ∀ j, j < 64 → ¬ nI j = -1 := by decide +kernel
    obtain ⟨s0, s1⟩ := M_scan_l (v := v) (nI (n - 256)) m3
    unfold f_Tw_findBit k_Tw_findBit_18
    by_cases cv : v = 0
    · have k1 := kset true
      rw [if_pos rfl] at k1
      rw [if_pos cv, k1, po_bs2, if_pos cv]
      have eM : k_Mo_scan_23 (nI (n - 256)) v (-1) (-1) 0 m3 = some (z_sN (lvF m3) 1 3 (b2i true)) := by
        rw [s0 cv, M_scan67, if_pos rfl]
        unfold k_Mo_scan_108 k_Mo_scan_139
        rw [if_neg (show ¬ z_bad (3 : Int32) 7 by decide), po_nm2, if_pos rfl]
        rfl
      refine r_M eM ?_
      exact fin2 (EQ_FU q1.1 (fu true))
    · have k1 := kset false
      rw [if_neg (by decide)] at k1
      rw [if_neg cv, k1, po_bs2, if_neg cv]
      obtain ⟨lo, hi, hlo, hhi, sM⟩ := s1 cv
      have hEE := EQ_FU q1.1 (fu false)
      have w10 : z_gI (z_sN (lvF m3) 1 3 (b2i false)) 10 = z_gI m 10 := y10
      have w16 : z_gI (z_sN (lvF m3) 1 3 (b2i false)) 16 = z_gI m 16 := y16
      have eM : k_Mo_scan_23 (nI (n - 256)) v (-1) (-1) 0 m3 = (f_Mo_setG (nI (szV (z_gI m 10) (z_gI m 16))) ((nI (if n = 444 then lo else hi)).toInt64) (z_sN (lvF m3) 1 3 (b2i false))).bind (fun r12 => k_Mo_scan_139 r12) := by
        rw [sM, M_scan67, if_neg (nm1 lo hlo.1)]
        unfold k_Mo_scan_108 k_Mo_scan_136
        rw [if_neg (show ¬ z_bad (3 : Int32) 7 by decide), po_nm2, if_neg (nm1 lo hlo.1)]
        show (f_Mo_wide (z_sN (lvF m3) 1 3 (b2i false))).bind _ = _
        rw [M_wide, po_bs2, w10, w16]
        rcases hc with rfl | rfl <;> rfl
      obtain ⟨k5, m5, w1, w2, w3, _⟩ := wG hEE (MR_FU q2.1 (fu false)) hz.1 hz.2 (em_r _ ((nI (if n = 444 then lo else hi)).toInt64))
      rw [w2, po_bs2] at eM
      have eK : (if b2i (decide (n = 444)) = 0 then ((f_Tw_highestBit v (z_sI k3 0 (fwB (tb (z_gL k3 4) 0) (tb (z_gL k3 4) 2) (tb (z_gL k3 4) 4) false (tb (z_gL k3 4) 7) (fb (z_gN m3 1) 5) (tb (z_gL k3 4) 11)))).bind (fun r5 => k_Tw_findBit_51 (nI (szV (z_gI m 10) (z_gI m 16))) (r5.toInt64) (z_sI k3 0 (fwB (tb (z_gL k3 4) 0) (tb (z_gL k3 4) 2) (tb (z_gL k3 4) 4) false (tb (z_gL k3 4) 7) (fb (z_gN m3 1) 5) (tb (z_gL k3 4) 11))))) else ((f_Tw_lowestBit v (z_sI k3 0 (fwB (tb (z_gL k3 4) 0) (tb (z_gL k3 4) 2) (tb (z_gL k3 4) 4) false (tb (z_gL k3 4) 7) (fb (z_gN m3 1) 5) (tb (z_gL k3 4) 11)))).bind (fun r7 => k_Tw_findBit_51 (nI (szV (z_gI m 10) (z_gI m 16))) (r7.toInt64) (z_sI k3 0 (fwB (tb (z_gL k3 4) 0) (tb (z_gL k3 4) 2) (tb (z_gL k3 4) 4) false (tb (z_gL k3 4) 7) (fb (z_gN m3 1) 5) (tb (z_gL k3 4) 11)))))) = some k5 := by
        unfold k_Tw_findBit_51
        by_cases c4 : n = 444
        · rw [decide_eq_true c4, if_neg (show ¬ b2i true = 0 by decide), K_lowest hlo, po_bs2]
          rw [if_pos c4] at w1
          rw [w1]; rfl
        · rw [decide_eq_false c4, if_pos (show b2i false = 0 from rfl), K_highest hhi, po_bs2]
          rw [if_neg c4] at w1
          rw [w1]; rfl
      rw [eK]
      refine r_M eM ?_
      exact fin2 w3
