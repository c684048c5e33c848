def fwB (c p h z s d o : Bool) : Int32 := (if c then 1 else 0) ||| (if p then 4 else 0) ||| (if h then 16 else 0) ||| (if z then 64 else 0) ||| (if s then 128 else 0) ||| (if d then 1024 else 0) ||| (if o then 2048 else 0)
def fb (f : Nat → Int32) (j : Nat) : Bool := decide (¬ f j = 0)
theorem fw_B (f : Nat → Int32) : fw f = fwB (fb f 0) (fb f 1) (fb f 2) (fb f 3) (fb f 4) (fb f 5) (fb f 6) := by
  have e : ∀ (j : Nat) (v : Int32), (if f j = 0 then (0 : Int32) else v) = if fb f j then v else 0 := by
    intro j v
    unfold fb
    by_cases h : f j = 0
    · rw [if_pos h, decide_eq_false (fun x => x h)]; rfl
    · rw [if_neg h, decide_eq_true h]; rfl
  unfold fw fwB
  rw [e 0, e 1, e 2, e 3, e 4, e 5, e 6]
theorem tI_if (b : Bool) {k : Nat} (hk : k < 32) {v : Int32} (hv : v = nI (2 ^ k)) (i : Nat) : tI (if b then v else 0) i = (decide (i = k) && b) := by
  cases b with
  | false => show tI 0 i = _; rw [tI_0, Bool.and_false]
  | true =>
    show tI v i = _
    rw [hv, tI_N, Nat.testBit_two_pow, Bool.and_true]
    by_cases h : i = k
    · subst h; simp [hk]
    · rw [decide_eq_false h, decide_eq_false (show ¬ k = i from fun e => h e.symm)]; simp
theorem tI_fwB (c p h z s d o : Bool) (i : Nat) : tI (fwB c p h z s d o) i = (((((((decide (i = 0) && c) || (decide (i = 2) && p)) || (decide (i = 4) && h)) || (decide (i = 6) && z)) || (decide (i = 7) && s)) || (decide (i = 10) && d)) || (decide (i = 11) && o)) := by
  unfold fwB
  rw [tI_or, tI_or, tI_or, tI_or, tI_or, tI_or, tI_if c (k := 0) (v := 1) (by decide) rfl, tI_if p (k := 2) (v := 4) (by decide) rfl, tI_if h (k := 4) (v := 16) (by decide) rfl, tI_if z (k := 6) (v := 64) (by decide) rfl, tI_if s (k := 7) (v := 128) (by decide) rfl, tI_if d (k := 10) (v := 1024) (by decide) rfl, tI_if o (k := 11) (v := 2048) (by decide) rfl]
def sel (t o x v u : Bool) : Bool := ((x && !(t || o)) || (v && t)) || (u && o)
theorem tI_m1 (i : Nat) (hi : i < 32) : tI (-1) i = true := by
  have : ∀ i, i < 32 → tI (-1) i = true := by decide +kernel
  exact this i hi
theorem st_fw (c p h z s d o tc tp th tz ts td to oc op oh oz os od oo : Bool) (val und : Int32) : ((fwB c p h z s d o &&& ((fwB tc tp th tz ts td to ||| fwB oc op oh oz os od oo) ^^^ (-1 : Int32))) ||| (val &&& fwB tc tp th tz ts td to)) ||| (und &&& fwB oc op oh oz os od oo) = fwB (sel tc oc c (tI val 0) (tI und 0)) (sel tp op p (tI val 2) (tI und 2)) (sel th oh h (tI val 4) (tI und 4)) (sel tz oz z (tI val 6) (tI und 6)) (sel ts os s (tI val 7) (tI und 7)) (sel td od d (tI val 10) (tI und 10)) (sel to oo o (tI val 11) (tI und 11)) := by
  refine tI_ext (fun i hi => ?_)
  rw [tI_or, tI_or, tI_and, tI_and, tI_and, tI_xor, tI_or, tI_m1 i hi, tI_fwB, tI_fwB, tI_fwB, tI_fwB]
  unfold sel
  by_cases h0 : i = 0
  · subst h0; simp
  by_cases h2 : i = 2
  · subst h2; simp
  by_cases h4 : i = 4
  · subst h4; simp
  by_cases h6 : i = 6
  · subst h6; simp
  by_cases h7 : i = 7
  · subst h7; simp
  by_cases h10 : i = 10
  · subst h10; simp
  by_cases h11 : i = 11
  · subst h11; simp
  rw [decide_eq_false h0, decide_eq_false h2, decide_eq_false h4, decide_eq_false h6, decide_eq_false h7, decide_eq_false h10, decide_eq_false h11]
  simp
def b2i (b : Bool) : Int32 := if b then 1 else 0
theorem b2i_nar (b : Bool) : vp_nar .boolean (b2i b) = b2i b := by cases b <;> rfl
theorem b2i_b (b : Bool) : decide (¬ b2i b = 0) = b := by cases b <;> rfl
theorem in7 {j : Nat} (h : j < 7) : ¬ z_bad (nI j) 7 := vp_in_nI h (by decide)
def zF (v : Int64) (n : Nat) : Bool := decide (v &&& mk n = 0)
def sF (v : Int64) (n : Nat) : Bool := tb v (8 * n - 1)
def xr (v : Int64) : Nat → Bool
  | 0 => false
  | i + 1 => xr v i ^^ tb v i
def pF (v : Int64) : Bool := !xr v 8
theorem and_mk0 (v : Int64) {n : Nat} (hn : n ≤ 8) : (v &&& mk n = 0) ↔ ∀ i, i < 8 * n → tb v i = false := by
  constructor
  · intro h i hi
    have := congrArg (fun y => tb y i) h
    rw [tb_and, tb_mk hn i (by omega), tb_0, decide_eq_true hi, Bool.and_true] at this
    exact this
  · intro h
    refine tb_ext (fun i hi => ?_)
    rw [tb_and, tb_mk hn i hi, tb_0]
    by_cases c : i < 8 * n
    · rw [h i c]; rfl
    · rw [decide_eq_false c, Bool.and_false]
theorem M_top (v : Int64) {n : Nat} (h1 : 1 ≤ n) (h8 : n ≤ 8) (q : z_Sg) : f_Mo_top v (nI n) q = some (b2i (sF v n)) := by
  unfold f_Mo_top k_Mo_top_20 z_gd sF
  rw [(z_64m h1 h8).2.2]
  by_cases h : tb v (8 * n - 1) = true
  · rw [if_pos ((tb_bit1 v (by omega)).mpr h), h]; rfl
  · rw [if_neg (fun x => h ((tb_bit1 v (by omega)).mp x))]
    have h' : tb v (8 * n - 1) = false := by simpa using h
    rw [h']; rfl
theorem tb_bit0 (x : Int64) {k : Nat} (hk : k < 64) : ((z_lushr x (nI k)) &&& 1 = 0) ↔ tb x k = false := by
  constructor
  · intro h
    have := congrArg (fun y => tb y 0) h
    rw [tb_and, tb_ushr x 0 hk, tb_1, tb_0] at this
    simpa using this
  · intro h
    refine tb_ext (fun i hi => ?_)
    rw [tb_and, tb_ushr x i hk, tb_1, tb_0]
    by_cases h0 : i < 1
    · have : i = 0 := by omega
      subst this
      simp [h]
    · rw [decide_eq_false h0]; simp
theorem bit_i (x : Int64) {k : Nat} (hk : k < 64) : ((z_lushr x (nI k)) &&& 1).toInt32 = b2i (tb x k) := by
  cases h : tb x k with
  | true => rw [(tb_bit1 x hk).mpr h]; rfl
  | false => rw [(tb_bit0 x hk).mpr h]; rfl
theorem M_result (v : Int64) {n : Nat} (h1 : 1 ≤ n) (h8 : n ≤ 8) (m : z_Sg) : f_Mo_result v (nI n) m = some (z_sN (z_sN (z_sN m 1 3 (b2i (zF v n))) 1 4 (b2i (sF v n))) 1 1 (b2i (pF v))) := by
  have e8 := (z_64m h1 h8).2.1
  have k50 : ∀ x4 : Int32, x4 = b2i (zF v n) → k_Mo_result_50 v (nI n) x4 0 0 m = some (z_sN (z_sN (z_sN m 1 3 (b2i (zF v n))) 1 4 (b2i (sF v n))) 1 1 (b2i (pF v))) := by
    intro x4 hx4
    unfold k_Mo_result_50
    obtain ⟨b, hb1, hb2⟩ := z_lo_ok (F := fun ih50 (a : Int64 × Int32 × Int32 × Int32 × Int32 × z_Sg) => kb_Mo_result_50 ih50 a.1 a.2.1 a.2.2.1 a.2.2.2.1 a.2.2.2.2.1 a.2.2.2.2.2) (fun a => a.1 = v ∧ a.2.1 = nI n ∧ a.2.2.1 = x4 ∧ a.2.2.2.2.2 = m ∧ ∃ i c, i ≤ 8 ∧ c ≤ i ∧ a.2.2.2.2.1 = nI i ∧ a.2.2.2.1 = nI c ∧ decide (c % 2 = 1) = xr v i) (fun a => 8 - a.2.2.2.2.1.toNatClampNeg) (fun o => o = z_sN (z_sN (z_sN m 1 3 (b2i (zF v n))) 1 4 (b2i (sF v n))) 1 1 (b2i (pF v))) (by
      rintro ih ⟨a1, a2, a3, a4, a5, a6⟩ ⟨c1, c2, c3, c4, i, c, hi, hc, e5, e4, hx⟩ hih
      dsimp only at c1 c2 c3 c4 e5 e4 hih ⊢
      subst c1 c2 c3 c4 e5 e4
      unfold kb_Mo_result_50
      by_cases hi8 : 8 ≤ i
      · have : i = 8 := by omega
        subst this
        rw [if_pos (by decide), if_neg (show ¬ z_bad (3 : Int32) 7 by decide), po_nm2, M_top _ h1 h8, po_bs2, if_neg (show ¬ z_bad (4 : Int32) 7 by decide), po_nm2]
        unfold k_Mo_result_111
        have hp : ∀ c, c ≤ 8 → ((nI c - nI c / (2 : Int32) * (2 : Int32)) = 0 ↔ ¬ c % 2 = 1) := by decide +kernel
        rw [hx4, b2i_nar, b2i_nar]
        have fin : ∀ t : Int32, t = b2i (pF a1) → ∃ b, (if z_bad (1 : Int32) 7 then none else (z_nm (z_sN (z_sN (z_sN a6 1 (3 : Int32).toNatClampNeg (b2i (zF a1 n))) 1 (4 : Int32).toNatClampNeg (b2i (sF a1 n))) 1 (1 : Int32).toNatClampNeg (vp_nar .boolean t)) (fun q10 => some q10))) = some b ∧ b = z_sN (z_sN (z_sN a6 1 3 (b2i (zF a1 n))) 1 4 (b2i (sF a1 n))) 1 1 (b2i (pF a1)) := by
          intro t ht
          rw [if_neg (show ¬ z_bad (1 : Int32) 7 by decide), po_nm2, ht, b2i_nar]
          exact ⟨_, rfl, rfl⟩
        by_cases hc2 : c % 2 = 1
        · rw [if_neg (fun x => (hp c hc).mp x hc2)]
          refine fin 0 ?_
          unfold pF
          rw [← hx, decide_eq_true hc2]; rfl
        · rw [if_pos ((hp c hc).mpr hc2)]
          refine fin 1 ?_
          unfold pF
          rw [← hx, decide_eq_false hc2]; rfl
      · rw [if_neg (fun x => hi8 ((z_i8 (by omega)).mp x)), po_nm2, po_nm2, nI_S, bit_i _ (by omega)]
        refine hih _ ⟨rfl, rfl, rfl, rfl, i + 1, c + (if tb a1 i then 1 else 0), by omega, by split <;> omega, rfl, ?_, ?_⟩ ?_
        · show nI c + b2i (tb a1 i) = _
          cases tb a1 i with
          | true => exact nI_S c
          | false => show nI c + 0 = nI (c + 0); rw [Int32.add_zero]; rfl
        · show _ = (xr a1 i ^^ tb a1 i)
          rw [← hx]
          cases tb a1 i with
          | true =>
            by_cases hc2 : c % 2 = 1
            · rw [decide_eq_true hc2, decide_eq_false (show ¬ (c + (if true = true then 1 else 0)) % 2 = 1 by rw [if_pos rfl]; omega)]; rfl
            · rw [decide_eq_false hc2, decide_eq_true (show (c + (if true = true then 1 else 0)) % 2 = 1 by rw [if_pos rfl]; omega)]; rfl
          | false =>
            rw [Bool.xor_false]
            rfl
        · show 8 - (nI (i + 1)).toNatClampNeg < 8 - (nI i).toNatClampNeg
          rw [z_clp (by omega), z_clp (by omega)]
          omega) 2000 (v, nI n, x4, 0, 0, m) ⟨rfl, rfl, rfl, rfl, 0, 0, by omega, by omega, rfl, rfl, rfl⟩ (by show 8 - (0 : Int32).toNatClampNeg < 2000; decide)
    rw [hb1, hb2]
  unfold f_Mo_result k_Mo_result_9
  obtain ⟨b, hb1, hb2⟩ := z_lo_ok (F := fun ih9 (a : Int64 × Int32 × Int32 × Int32 × Int32 × z_Sg) => kb_Mo_result_9 ih9 a.1 a.2.1 a.2.2.1 a.2.2.2.1 a.2.2.2.2.1 a.2.2.2.2.2) (fun a => a.1 = v ∧ a.2.1 = nI n ∧ a.2.2.2.1 = 0 ∧ a.2.2.2.2.2 = m ∧ ∃ i, i ≤ 8 * n ∧ a.2.2.2.2.1 = nI i ∧ a.2.2.1 = b2i (decide (∀ j, j < i → tb v j = false))) (fun a => 64 - a.2.2.2.2.1.toNatClampNeg) (fun o => o = z_sN (z_sN (z_sN m 1 3 (b2i (zF v n))) 1 4 (b2i (sF v n))) 1 1 (b2i (pF v))) (by
    rintro ih ⟨a1, a2, a3, a4, a5, a6⟩ ⟨c1, c2, c3, c4, i, hi, e5, e3⟩ hih
    dsimp only at c1 c2 c3 c4 e5 e3 hih ⊢
    subst c1 c2 c3 c4 e5
    unfold kb_Mo_result_9
    rw [e8]
    have hle : nI (8 * n) ≤ nI i ↔ 8 * n ≤ i := nI_leI (by omega) (by omega)
    by_cases hin : 8 * n ≤ i
    · have : i = 8 * n := by omega
      subst this
      rw [if_pos (hle.mpr hin)]
      rw [k50 a3 (by rw [e3]; unfold zF; congr 1; exact decide_eq_decide.mpr (and_mk0 a1 h8).symm)]
      exact ⟨_, rfl, rfl⟩
    · rw [if_neg (fun x => hin (hle.mp x))]
      have go : ∀ t : Int32, t = b2i (decide (∀ j, j < i + 1 → tb a1 j = false)) → ∃ b, k_Mo_result_39 ih a1 (nI n) 0 (nI i) t a6 = some b ∧ b = z_sN (z_sN (z_sN a6 1 3 (b2i (zF a1 n))) 1 4 (b2i (sF a1 n))) 1 1 (b2i (pF a1)) := by
        intro t ht
        unfold k_Mo_result_39
        rw [po_nm2, nI_S]
        refine hih _ ⟨rfl, rfl, rfl, rfl, i + 1, by omega, rfl, ht⟩ ?_
        show 64 - (nI (i + 1)).toNatClampNeg < 64 - (nI i).toNatClampNeg
        rw [z_clp (by omega), z_clp (by omega)]
        omega
      unfold k_Mo_result_38
      by_cases ha : ∀ j, j < i → tb a1 j = false
      · rw [e3, decide_eq_true ha, if_neg (show ¬ b2i true = 0 by decide)]
        by_cases hb : tb a1 i = false
        · rw [if_pos ((tb_bit0 a1 (by omega)).mpr hb)]
          refine go 1 ?_
          rw [decide_eq_true (fun j hj => by
            by_cases hji : j = i
            · rw [hji]; exact hb
            · exact ha j (by omega))]
          rfl
        · rw [if_neg (fun x => hb ((tb_bit0 a1 (by omega)).mp x))]
          refine go 0 ?_
          rw [decide_eq_false (fun x => hb (x i (by omega)))]
          rfl
      · rw [e3, decide_eq_false ha, if_pos (show b2i false = 0 by decide)]
        refine go 0 ?_
        rw [decide_eq_false (fun x => ha (fun j hj => x j (by omega)))]
        rfl) 2000 (v, nI n, 1, 0, 0, m) ⟨rfl, rfl, rfl, rfl, 0, by omega, rfl, by rw [decide_eq_true (fun j hj => absurd hj (by omega))]; rfl⟩ (by show 64 - (0 : Int32).toNatClampNeg < 2000; decide)
  rw [hb1, hb2]
