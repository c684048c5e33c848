theorem toI_N {n : Nat} (h : n < 2 ^ 63) : (lN n).toInt = n := by rw [z_toInt (by omega), if_pos h]
theorem bm64 {a : Int} (h1 : -9223372036854775808 ≤ a) (h2 : a < 9223372036854775808) : a.bmod (2 ^ 64) = a := by
  rw [Int.bmod_def]
  split <;> omega
theorem x_toInt (x : Int64) : x.toInt = (if uN x < 2 ^ 63 then (uN x : Int) else (uN x : Int) - 2 ^ 64) := by
  have := z_toInt (uN_lt x)
  rw [uN_l] at this
  exact this
theorem fm_ok {s : Nat} (hs : s = 2 ∨ s = 4 ∨ s = 8) (x : Int64) (q : z_Sg) : f_Ma_floorModM x ((8 : Int64) * (nI s).toInt64) q = some (lN (uN x % (8 * s))) := by
  have ey : (8 : Int64) * (nI s).toInt64 = lN (8 * s) := by rcases hs with rfl | rfl | rfl <;> rfl
  have hY : (lN (8 * s)).toInt = (8 * s : Nat) := toI_N (by omega)
  have hx := x_toInt x
  have hu := uN_lt x
  rw [ey]
  generalize hYY : 8 * s = Y at *
  have hY3 : Y = 16 ∨ Y = 32 ∨ Y = 64 := by omega
  have hX1 : -9223372036854775808 ≤ x.toInt := Int64.minValue_le_toInt x
  have hX2 : x.toInt < 9223372036854775808 := Int64.toInt_lt x
  have hd : (x / lN Y).toInt = x.toInt.tdiv Y := by
    rw [Int64.toInt_div, hY]
    refine bm64 ?_ ?_
    · by_cases c : 0 ≤ x.toInt
      · rw [Int.tdiv_eq_ediv_of_nonneg c]; rcases hY3 with rfl | rfl | rfl <;> omega
      · have : x.toInt.tdiv Y = -((-x.toInt).tdiv Y) := by rw [Int.neg_tdiv, Int.neg_neg]
        rw [this, Int.tdiv_eq_ediv_of_nonneg (by omega)]; rcases hY3 with rfl | rfl | rfl <;> omega
    · by_cases c : 0 ≤ x.toInt
      · rw [Int.tdiv_eq_ediv_of_nonneg c]; rcases hY3 with rfl | rfl | rfl <;> omega
      · have : x.toInt.tdiv Y = -((-x.toInt).tdiv Y) := by rw [Int.neg_tdiv, Int.neg_neg]
        rw [this, Int.tdiv_eq_ediv_of_nonneg (by omega)]; rcases hY3 with rfl | rfl | rfl <;> omega
  have hr : (x - x / lN Y * lN Y).toInt = x.toInt - x.toInt.tdiv Y * Y := by
    rw [Int64.toInt_sub, Int64.toInt_mul, hd, hY]
    have hb : -9223372036854775808 ≤ x.toInt.tdiv Y * Y ∧ x.toInt.tdiv Y * Y < 9223372036854775808 ∧ -9223372036854775808 ≤ x.toInt - x.toInt.tdiv Y * Y ∧ x.toInt - x.toInt.tdiv Y * Y < 9223372036854775808 := by
      by_cases c : 0 ≤ x.toInt
      · rw [Int.tdiv_eq_ediv_of_nonneg c]; rcases hY3 with rfl | rfl | rfl <;> omega
      · have : x.toInt.tdiv Y = -((-x.toInt).tdiv Y) := by rw [Int.neg_tdiv, Int.neg_neg]
        rw [this, Int.tdiv_eq_ediv_of_nonneg (by omega)]; rcases hY3 with rfl | rfl | rfl <;> omega
    rw [bm64 hb.1 hb.2.1, bm64 hb.2.2.1 hb.2.2.2]
  have hres : (lN (uN x % Y)).toInt = (uN x % Y : Nat) := toI_N (by rcases hY3 with rfl | rfl | rfl <;> omega)
  have hsgn : ((0 : Int64) ≤ x ^^^ lN Y) ↔ 0 ≤ x.toInt := by
    have t63 : tb (lN Y) 63 = false := by
      rw [tb_N]
      have : Y.testBit 63 = false := Nat.testBit_lt_two_pow (by omega)
      rw [this]; rfl
    have e : tb (x ^^^ lN Y) 63 = tb x 63 := by rw [tb_xor, t63, Bool.xor_false]
    have h1 := tb_lt0 (x ^^^ lN Y)
    have h2 := tb_lt0 x
    rw [e] at h1
    have h3 : (x ^^^ lN Y < 0) ↔ x < 0 := h1.trans h2.symm
    have h4 : (x < 0) ↔ x.toInt < 0 := by rw [Int64.lt_iff_toInt_lt]; rfl
    constructor
    · intro z
      have : ¬ x < 0 := fun w => absurd (h3.mpr w) (Int64.not_lt.mpr z)
      rw [h4] at this; omega
    · intro z
      exact Int64.not_lt.mp (fun w => by have := h4.mp (h3.mp w); omega)
  unfold f_Ma_floorModM
  have y0 : ¬ lN Y = 0 := by rw [uN_0, uN_N (by omega)]; omega
  rw [if_neg y0, po_nm2]
  by_cases c : 0 ≤ x.toInt
  · rw [if_pos (hsgn.mpr c)]
    show some (x - x / lN Y * lN Y) = _
    congr 1
    refine Int64.toInt_inj.mp ?_
    rw [hr, hres, Int.tdiv_eq_ediv_of_nonneg c]
    rcases hY3 with rfl | rfl | rfl <;> (split at hx <;> omega)
  · have hneg : x.toInt.tdiv Y = -((-x.toInt) / Y) := by
      have : x.toInt.tdiv Y = -((-x.toInt).tdiv Y) := by rw [Int.neg_tdiv, Int.neg_neg]
      rw [this, Int.tdiv_eq_ediv_of_nonneg (by omega)]
    rw [if_neg (fun z => c (hsgn.mp z))]
    rw [hneg] at hr
    have hz : (x - x / lN Y * lN Y = 0) ↔ x.toInt - -((-x.toInt) / Y) * Y = 0 := by
      rw [← Int64.toInt_inj, hr]; rfl
    by_cases cz : x - x / lN Y * lN Y = 0
    · rw [if_pos cz]
      show some (x - x / lN Y * lN Y) = _
      congr 1
      refine Int64.toInt_inj.mp ?_
      have hz' := hz.mp cz
      rw [hr, hres]
      rcases hY3 with rfl | rfl | rfl <;> (split at hx <;> omega)
    · rw [if_neg cz]
      congr 1
      refine Int64.toInt_inj.mp ?_
      have hz' : ¬ x.toInt - -((-x.toInt) / Y) * Y = 0 := fun w => cz (hz.mpr w)
      rw [Int64.toInt_add, hr, hY, hres]
      rw [bm64 (by rcases hY3 with rfl | rfl | rfl <;> omega) (by rcases hY3 with rfl | rfl | rfl <;> omega)]
      rcases hY3 with rfl | rfl | rfl <;> (split at hx <;> omega)
theorem add_rc (a b c : Int64) : a + b + c = a + c + b := by rw [Int64.add_assoc, Int64.add_comm b c, ← Int64.add_assoc]
theorem plc_add {k : z_Sg} {p : Int64} (h : f_De_placeOfE 0 k = some p) (x : Int64) : f_De_placeOfE 0 (z_sL k 8 (z_gL k 8 + x)) = some (p + x) := by
  have e63 : ∀ (q1 : z_Sg) (y t : Int64), k_De_placeOfE_63 y k = some t → k_De_placeOfE_63 (y + x) (z_sL k 8 (z_gL k 8 + x)) = some (t + x) := by
    intro q1 y t ht
    unfold k_De_placeOfE_63 k_De_placeOfE_93 at ht ⊢
    show (if z_gI k 8 < 0 then some (y + x) else (if z_bad (z_gI k 8 &&& 15) 16 then none else (z_nm ((y + x) + z_lshl (z_gM k 0 (z_gI k 8 &&& 15).toNatClampNeg) (z_gI k 9)) (fun n6 => some n6)))) = _
    by_cases c : z_gI k 8 < 0
    · rw [if_pos c] at ht ⊢
      rw [← Option.some.inj ht]
    · rw [if_neg c] at ht ⊢
      by_cases c2 : z_bad (z_gI k 8 &&& 15) 16
      · rw [if_pos c2] at ht; cases ht
      · rw [if_neg c2] at ht ⊢
        rw [po_nm2] at ht ⊢
        rw [← Option.some.inj ht, add_rc]
  unfold f_De_placeOfE k_De_placeOfE_60 at h ⊢
  rw [po_nm2] at h ⊢
  show (if z_gI k 7 = -2 then (z_nm ((z_gL k 8 + x) + z_gL k 10) (fun n10 => k_De_placeOfE_63 n10 (z_sL k 8 (z_gL k 8 + x)))) else (if z_gI k 7 < 0 then k_De_placeOfE_63 (z_gL k 8 + x) (z_sL k 8 (z_gL k 8 + x)) else (if z_bad (z_gI k 7 &&& 15) 16 then none else (if z_gI k 7 = 4 then (z_nm ((z_gL k 8 + x) + (z_gM k 0 (z_gI k 7 &&& 15).toNatClampNeg + 0)) (fun n9 => k_De_placeOfE_63 n9 (z_sL k 8 (z_gL k 8 + x)))) else (z_nm ((z_gL k 8 + x) + (z_gM k 0 (z_gI k 7 &&& 15).toNatClampNeg + 0)) (fun n9 => k_De_placeOfE_63 n9 (z_sL k 8 (z_gL k 8 + x)))))))) = _
  by_cases c1 : z_gI k 7 = -2
  · rw [if_pos c1] at h ⊢
    rw [po_nm2] at h ⊢
    rw [add_rc]
    exact e63 k _ _ h
  · rw [if_neg c1] at h ⊢
    by_cases c2 : z_gI k 7 < 0
    · rw [if_pos c2] at h ⊢
      exact e63 k _ _ h
    · rw [if_neg c2] at h ⊢
      by_cases c3 : z_bad (z_gI k 7 &&& 15) 16
      · rw [if_pos c3] at h; cases h
      · rw [if_neg c3] at h ⊢
        by_cases c4 : z_gI k 7 = 4
        · rw [if_pos c4] at h ⊢
          rw [po_nm2] at h ⊢
          rw [add_rc]
          exact e63 k _ _ h
        · rw [if_neg c4] at h ⊢
          rw [po_nm2] at h ⊢
          rw [add_rc]
          exact e63 k _ _ h
theorem K_bitv {s : Nat} (hs : s = 2 ∨ s = 4 ∨ s = 8) (x : Int64) : z_lshl 1 ((x &&& (((8 : Int64) * (nI s).toInt64) - 1)).toInt32) = z_lshl 1 (nI (uN x % (8 * s))) := by
  have e : (x &&& (((8 : Int64) * (nI s).toInt64) - 1)) = lN (uN x % (8 * s)) := by
    have hm : ((8 : Int64) * (nI s).toInt64) - 1 = lN (8 * s - 1) := by rcases hs with rfl | rfl | rfl <;> rfl
    rw [hm]
    have := uN_l x
    rcases hs with rfl | rfl | rfl
    · have := wb_mask (k := 4) (uN_lt x) (by decide); rw [uN_l] at this; exact this
    · have := wb_mask (k := 5) (uN_lt x) (by decide); rw [uN_l] at this; exact this
    · have := wb_mask (k := 6) (uN_lt x) (by decide); rw [uN_l] at this; exact this
  rw [e]
  have : ∀ t, t < 64 → (lN t).toInt32 = nI t := by decide +kernel
  have hb := Nat.mod_lt (uN x) (show 0 < 8 * s by omega)
  rw [this _ (by omega)]
def btF (b : Bool) (m : z_Sg) : z_Sg := z_sN (z_sN (z_sN (z_sN (z_sN m 1 0 (b2i b)) 1 6 (b2i (tb (z_gL m 4) 11))) 1 4 (b2i (tb (z_gL m 4) 7))) 1 2 (b2i (tb (z_gL m 4) 4))) 1 1 (b2i (tb (z_gL m 4) 2))
theorem M_239 (q : z_Sg) : k_Mo_bit_239 q = some (z_sN (z_sN (z_sN (z_sN q 1 6 (b2i (tb (z_gL q 4) 11))) 1 4 (b2i (tb (z_gL q 4) 7))) 1 2 (b2i (tb (z_gL q 4) 4))) 1 1 (b2i (tb (z_gL q 4) 2))) := by
  unfold k_Mo_bit_239
  rw [show (6 : Int32) = nI 6 from rfl, M_leave (by decide), po_bs2, show (4 : Int32) = nI 4 from rfl, M_leave (by decide), po_bs2, show (2 : Int32) = nI 2 from rfl, M_leave (by decide), po_bs2, show (1 : Int32) = nI 1 from rfl, M_leave (by decide), po_bs2]
  rfl
theorem bit_use {k0 k m : z_Sg} (hE : EQ k m) (h5 : z_gI m 5 = 0) {s : Nat} (hs : s = 2 ∨ s = 4 ∨ s = 8) (hM : ME s k m) {v : Int64} (hv : f_Op_value k = some v) {x : Int64} {t : Nat} (ht : t = uN x % (8 * s)) {j : Nat} (hj : j < 4) : z_r k0 ((((f_Tw_useBit (nI j) x k).bind k_Tw_executeSingle_320).bind k_Tw_execute_121).bind S3) (if ((z_lushr v (nI t)) &&& (1 : Int64)) = (1 : Int64) then ((k_Mo_bit_180 (nI s) (nI j) (nI t) v (0 : Int32) (1 : Int32) m).bind (fun o => some (.inr o))) else ((k_Mo_bit_180 (nI s) (nI j) (nI t) v (0 : Int32) (0 : Int32) m).bind (fun o => some (.inr o)))) FQQ := by
  have s1 : 1 ≤ s := by omega
  have s8 : s ≤ 8 := by omega
  have t64 : t < 64 := by
    rw [ht]
    have := Nat.mod_lt (uN x) (show 0 < 8 * s by omega)
    omega
  have hu := EQn_L hE.1 (show 4 < 6 by decide)
  have nj : ∀ j, j < 4 → (nI j = 1 ↔ j = 1) ∧ (nI j = 2 ↔ j = 2) ∧ (nI j = 3 ↔ j = 3) := by decide +kernel
  obtain ⟨j1, j2, j3⟩ := nj j hj
  have e1 : z_lshl 1 (nI t) = lN (2 ^ t) := by
    have := z_lshl_N 1 t64
    rw [Nat.one_mul] at this
    exact this
  have hb := tb_and0 (x := v) (z_lshl 1 (nI t)) (k := t) (fun i => by rw [e1]; exact tb_pw i t64)
  have kset : ∀ b : Bool, f_Ar_settle 1 (if b then 1 else 0) 2196 k = some (z_sI k 0 (fwB b (tb (z_gL k 4) 2) (tb (z_gL k 4) 4) (fb (z_gN m 1) 3) (tb (z_gL k 4) 7) (fb (z_gN m 1) 5) (tb (z_gL k 4) 11))) := by
    intro b
    rw [K_set hE.2.1 (V := if b then 1 else 0) (show (1 : Int32) = fwB true false false false false false false by decide) (show (2196 : Int32) = fwB false true true false true false true by decide) (c := b) (p := false) (h := false) (z := false) (s := false) (d := false) (o := false) (by cases b <;> decide)]
    simp [sel]
  generalize hkb : z_lshl 1 (nI t) = B at *
  have main : ∀ b : Bool, tb v t = b → z_r k0 ((((k_Tw_useBit_62 (nI j) v B 1 (if b then 1 else 0) k).bind k_Tw_executeSingle_320).bind k_Tw_execute_121).bind S3) ((k_Mo_bit_180 (nI s) (nI j) (nI t) v (0 : Int32) (b2i b) m).bind (fun o => some (.inr o))) FQQ := by
    intro b hbv
    unfold k_Tw_useBit_62 k_Tw_useBit_129 k_Mo_bit_180 k_Mo_bit_203 k_Mo_bit_223
    rw [kset b, po_bs2, if_neg (show ¬ z_bad (0 : Int32) 7 by decide), po_nm2, po_nm2, b2i_nar, hkb]
    generalize hkk : z_sI k 0 (fwB b (tb (z_gL k 4) 2) (tb (z_gL k 4) 4) (fb (z_gN m 1) 3) (tb (z_gL k 4) 7) (fb (z_gN m 1) 5) (tb (z_gL k 4) 11)) = k1
    have fk1 : fr [] [0] [] [] k k1 := by rw [← hkk]; exact fr_sI fr_0 (by decide)
    have ek0 : z_gI k1 0 = fwB b (tb (z_gL m 4) 2) (tb (z_gL m 4) 4) (fb (z_gN m 1) 3) (tb (z_gL m 4) 7) (fb (z_gN m 1) 5) (tb (z_gL m 4) 11) := by rw [← hkk, hu]; rfl
    rw [show Int32.toNatClampNeg (0 : Int32) = 0 from rfl]
    generalize hmm : z_sN m 1 0 (b2i b) = m1
    have fm1 : fr [] [] [] [1] m m1 := by rw [← hmm]; exact fr_sN fr_0 (by decide)
    have hn1 : EQn k1 m1 := EQn_k hE.1 fk1 fm1 (by decide) (by decide) (by decide) (by decide) (by decide) (by decide) (by decide)
    have h51 : z_gI m1 5 = 0 := by rw [fr_I fm1 5 (by decide)]; exact h5
    have hM1 : ME s k1 m1 := ME_fr hM fk1 fm1 (by decide) (by decide) (by decide) (by decide)
    have finish : ∀ k2 m2, EQn k2 m2 → fr [] [] [0, 1] [] k1 k2 → fr [] [5] [0, 2] [3] m1 m2 → EQ k2 (z_sN (z_sN (z_sN (z_sN m2 1 6 (b2i (tb (z_gL m2 4) 11))) 1 4 (b2i (tb (z_gL m2 4) 7))) 1 2 (b2i (tb (z_gL m2 4) 4))) 1 1 (b2i (tb (z_gL m2 4) 2))) := by
      intro k2 m2 hn2 fk fm
      have n2 : z_gN m2 1 = z_gN m1 1 := fr_N fm 1 (by decide)
      have l2 : z_gL m2 4 = z_gL m 4 := by rw [fr_L fm 4 (by decide), fr_L fm1 4 (by decide)]
      refine ⟨EQn_k hn2 (Lk := []) (Ik := []) (Mk := []) (Nk := []) (Lm := []) (Im := []) (Mm := []) (Nm := [1]) fr_0 (fr_sN (fr_sN (fr_sN (fr_sN fr_0 (by decide)) (by decide)) (by decide)) (by decide)) (by decide) (by decide) (by decide) (by decide) (by decide) (by decide) (by decide), ?_, ?_, ?_⟩
      · rw [fr_I fk 0 (by decide), ek0]
        refine (fw_of ?_ ?_ ?_ ?_ ?_ ?_ ?_).symm
        · show fb (z_gN m2 1) 0 = b
          rw [n2, ← hmm]; exact fb_b rfl
        · rw [← l2]; exact fb_b rfl
        · rw [← l2]; exact fb_b rfl
        · show fb (z_gN m2 1) 3 = _
          rw [n2, ← hmm]; rfl
        · rw [← l2]; exact fb_b rfl
        · show fb (z_gN m2 1) 5 = _
          rw [n2, ← hmm]; rfl
        · rw [← l2]; exact fb_b rfl
      · show z_gI k2 2 = z_gI m2 2
        rw [fr_I fk 2 (by decide), fr_I fk1 2 (by decide), fr_I fm 2 (by decide), fr_I fm1 2 (by decide)]; exact hE.2.2.1
      · show z_gL k2 10 = z_gL m2 7
        rw [fr_L fk 10 (by decide), fr_L fk1 10 (by decide), fr_L fm 7 (by decide), fr_L fm1 7 (by decide)]; exact hE.2.2.2
    have wr : ∀ w : Int64, ∃ k2 m2, f_Op_put w k1 = some k2 ∧ f_Mo_setE (nI s) w m1 = some m2 ∧ EQ k2 (z_sN (z_sN (z_sN (z_sN m2 1 6 (b2i (tb (z_gL m2 4) 11))) 1 4 (b2i (tb (z_gL m2 4) 7))) 1 2 (b2i (tb (z_gL m2 4) 4))) 1 1 (b2i (tb (z_gL m2 4) 2))) := by
      intro w
      obtain ⟨k2, m2, p1, p2, p3, p4, p5, _⟩ := setE_r hn1 h51 hM1 s1 s8 (em_r s w)
      exact ⟨k2, m2, p1, p2, finish k2 m2 p3 p4 p5⟩
    by_cases c1 : j = 1
    · obtain ⟨k2, m2, p1, p2, p3⟩ := wr (v ||| B)
      rw [if_pos (j1.mpr c1), if_pos (j1.mpr c1), p1, p2, po_bs2]
      refine r_eqM (y' := some (.inr (z_sN (z_sN (z_sN (z_sN m2 1 6 (b2i (tb (z_gL m2 4) 11))) 1 4 (b2i (tb (z_gL m2 4) 7))) 1 2 (b2i (tb (z_gL m2 4) 4))) 1 1 (b2i (tb (z_gL m2 4) 2))))) ?_ (fin2 p3)
      rw [po_bs2, if_neg (fun z => by have := j2.mp z; omega), if_neg (fun z => by have := j3.mp z; omega), M_239]; rfl
    · rw [if_neg (fun z => c1 (j1.mp z)), if_neg (fun z => c1 (j1.mp z))]
      by_cases c2 : j = 2
      · obtain ⟨k2, m2, p1, p2, p3⟩ := wr (v &&& (B ^^^ (-1 : Int64)))
        rw [if_pos (j2.mpr c2), if_pos (j2.mpr c2), p1, p2, po_bs2]
        refine r_eqM (y' := some (.inr (z_sN (z_sN (z_sN (z_sN m2 1 6 (b2i (tb (z_gL m2 4) 11))) 1 4 (b2i (tb (z_gL m2 4) 7))) 1 2 (b2i (tb (z_gL m2 4) 4))) 1 1 (b2i (tb (z_gL m2 4) 2))))) ?_ (fin2 p3)
        rw [po_bs2, if_neg (fun z => by have := j3.mp z; omega), M_239]; rfl
      · rw [if_neg (fun z => c2 (j2.mp z)), if_neg (fun z => c2 (j2.mp z))]
        by_cases c3 : j = 3
        · obtain ⟨k2, m2, p1, p2, p3⟩ := wr (v ^^^ B)
          rw [if_pos (j3.mpr c3), if_pos (j3.mpr c3), p1, p2, po_bs2]
          refine r_eqM (y' := some (.inr (z_sN (z_sN (z_sN (z_sN m2 1 6 (b2i (tb (z_gL m2 4) 11))) 1 4 (b2i (tb (z_gL m2 4) 7))) 1 2 (b2i (tb (z_gL m2 4) 4))) 1 1 (b2i (tb (z_gL m2 4) 2))))) ?_ (fin2 p3)
          rw [po_bs2, M_239]; rfl
        · rw [if_neg (fun z => c3 (j3.mp z)), if_neg (fun z => c3 (j3.mp z)), M_239]
          exact fin2 (finish k1 m1 hn1 fr_0 fr_0)
  unfold f_Tw_useBit k_Tw_useBit_45
  have h15 := hM.2.1
  rw [hv, po_bs2, po_nm2, h15, K_bitv hs, ← ht, hkb]
  cases hbv : tb v t with
  | false =>
    rw [if_pos (hb.mpr hbv), if_pos rfl, if_neg (fun z => by rw [(tb_bit1 v t64).mp z] at hbv; cases hbv)]
    exact main false hbv
  | true =>
    rw [if_neg (fun z => by rw [hb.mp z] at hbv; cases hbv), if_neg (by decide), if_pos ((tb_bit1 v t64).mpr hbv)]
    exact main true hbv
