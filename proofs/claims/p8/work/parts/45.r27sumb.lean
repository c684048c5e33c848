def adC (tk : Bool) (a b : Int64) (c : Bool) (i : Nat) : Bool := if tk then br a b c i else cr a b c i
def adV (tk : Bool) (a b : Int64) (c : Bool) : Int64 := if tk then (a - b) - bL c else (a + b) + bL c
theorem adC_0 (tk : Bool) (a b : Int64) (c : Bool) : adC tk a b c 0 = c := by cases tk <;> rfl
theorem adC_S (tk : Bool) (a b : Int64) (c : Bool) (i : Nat) : adC tk a b c (i + 1) = if tk then ((!tb a i && tb b i) || (!(tb a i ^^ tb b i) && adC tk a b c i)) else ((tb a i && tb b i) || ((tb a i || tb b i) && adC tk a b c i)) := by cases tk <;> rfl
theorem tb_adV (tk : Bool) (a b : Int64) (c : Bool) (i : Nat) (hi : i < 64) : tb (adV tk a b c) i = (tb a i ^^ (tb b i ^^ adC tk a b c i)) := by
  cases tk
  · exact tb_sum a b c i hi
  · exact tb_dif a b c i hi
theorem add_s0 : ∀ x y c : Bool, (((b2i x + b2i y) + b2i c) / (2 : Int32) = b2i ((x && y) || ((x || y) && c))) ∧ (((((b2i x + b2i y) + b2i c) &&& (1 : Int32)) = 1) ↔ (x ^^ (y ^^ c)) = true) := by decide +kernel
theorem add_s1 : ∀ x y c : Bool, ((0 : Int32) ≤ ((b2i x - b2i y) - b2i c) ↔ ((!x && y) || (!(x ^^ y) && c)) = false) ∧ (((((b2i x - b2i y) - b2i c) &&& (1 : Int32)) = 1) ↔ (x ^^ (y ^^ c)) = true) := by decide +kernel
theorem b2i_1 (b : Bool) : (b2i b = 1) ↔ b = true := by cases b <;> decide
theorem b2i_e (a b : Bool) : (b2i a = b2i b) ↔ a = b := by cases a <;> cases b <;> decide
theorem b2i_0 (b : Bool) : (b2i b = 0) ↔ b = false := by cases b <;> decide
def adF (tk : Bool) (a b : Int64) (c : Bool) (n : Nat) (m : z_Sg) : z_Sg := z_sN (z_sN (z_sN m 1 2 (b2i (adC tk a b c 4))) 1 0 (b2i (adC tk a b c (8 * n)))) 1 6 (b2i (adC tk a b c (8 * n) ^^ adC tk a b c (8 * n - 1)))
abbrev z_ADf : (Int64 × Int64 × Int32 × Int32 × Int64 × Int32 × Int32 × Int32 × z_Sg → Option (Int64 × z_Sg)) → Int64 × Int64 × Int32 × Int32 × Int64 × Int32 × Int32 × Int32 × z_Sg → Option (Int64 × z_Sg) := fun ih21 a => kb_Mo_add_21 ih21 a.1 a.2.1 a.2.2.1 a.2.2.2.1 a.2.2.2.2.1 a.2.2.2.2.2.1 a.2.2.2.2.2.2.1 a.2.2.2.2.2.2.2.1 a.2.2.2.2.2.2.2.2
theorem add_e {n : Nat} (h1 : 1 ≤ n) (h8 : n ≤ 8) (v : Int64) (c p : Bool) (m : z_Sg) : (if b2i c = (1 : Int32) then (k_Mo_add_165 (nI n) v (b2i c) (b2i p) (0 : Int32) (1 : Int32) m) else (k_Mo_add_165 (nI n) v (b2i c) (b2i p) (0 : Int32) (0 : Int32) m)) = (f_Mo_result v (nI n) (z_sN (z_sN m 1 0 (b2i c)) 1 6 (b2i (c ^^ p)))).bind (fun r9 => some (v, r9)) := by
  cases c <;> cases p <;> rfl
theorem M_add (tk : Bool) (a b : Int64) (c : Bool) {n : Nat} (h1 : 1 ≤ n) (h8 : n ≤ 8) (m : z_Sg) : f_Mo_add a b (b2i c) (b2i tk) (nI n) m = (f_Mo_result (adV tk a b c &&& mk n) (nI n) (adF tk a b c n m)).bind (fun r9 => some (adV tk a b c &&& mk n, r9)) := by
  have e8 := (z_64m h1 h8).2.1
  have loop : ∀ (f i : Nat) (v : Int64) (q : z_Sg) (p : Bool), i ≤ 8 * n → 8 * n - i < f → (∀ j, j < 64 → tb v j = (decide (j < i) && (tb a j ^^ (tb b j ^^ adC tk a b c j)))) → (4 ≤ i → q = z_sN m 1 2 (b2i (adC tk a b c 4))) → (i < 4 → q = m) → (0 < i → p = adC tk a b c (i - 1)) → z_lo z_ADf f (a, b, b2i tk, nI n, v, b2i (adC tk a b c i), b2i p, nI i, q) = (f_Mo_result (adV tk a b c &&& mk n) (nI n) (adF tk a b c n m)).bind (fun r9 => some (adV tk a b c &&& mk n, r9)) := by
    intro f
    induction f with
    | zero => intro i v q p _ h; omega
    | succ f ih =>
      intro i v q p hi hf hv hq4 hq0 hp
      show kb_Mo_add_21 (z_lo z_ADf f) a b (b2i tk) (nI n) v (b2i (adC tk a b c i)) (b2i p) (nI i) q = _
      unfold kb_Mo_add_21
      rw [e8]
      have hle : nI (8 * n) ≤ nI i ↔ 8 * n ≤ i := nI_leI (by omega) (by omega)
      by_cases hin : 8 * n ≤ i
      · have : i = 8 * n := by omega
        subst this
        rw [if_pos (hle.mpr hin), add_e h1 h8, hq4 (by omega), hp (by omega)]
        have ev : v = adV tk a b c &&& mk n := tb_ext (fun j hj => by
          rw [hv j hj, tb_and, tb_adV tk a b c j hj, tb_mk h8 j hj, Bool.and_comm])
        rw [ev]
        rfl
      · rw [if_neg (fun x => hin (hle.mp x)), po_nm2, po_nm2, bit_i _ (by omega), bit_i _ (by omega)]
        have go : ∀ (v' : Int64), (∀ j, j < 64 → tb v' j = (decide (j < i + 1) && (tb a j ^^ (tb b j ^^ adC tk a b c j)))) → k_Mo_add_120 (z_lo z_ADf f) a b (b2i tk) (nI n) v' (b2i (adC tk a b c (i + 1))) (b2i (adC tk a b c i)) (nI i) q = (f_Mo_result (adV tk a b c &&& mk n) (nI n) (adF tk a b c n m)).bind (fun r9 => some (adV tk a b c &&& mk n, r9)) := by
          intro v' hv'
          unfold k_Mo_add_120 k_Mo_add_142 k_Mo_add_143
          have h3 : (nI i = (3 : Int32)) ↔ i = 3 := by
            have : ∀ i, i < 64 → ((nI i = (3 : Int32)) ↔ i = 3) := by decide +kernel
            exact this i (by omega)
          by_cases c3 : i = 3
          · subst c3
            rw [if_pos (h3.mpr rfl), hq0 (by omega)]
            have := ih 4 v' (z_sN m 1 2 (b2i (adC tk a b c 4))) (adC tk a b c 3) (by omega) (by omega) hv' (fun _ => rfl) (fun h => by omega) (fun _ => rfl)
            show (if b2i (adC tk a b c 4) = 1 then _ else _) = _
            cases hc : adC tk a b c 4 with
            | true =>
              rw [hc] at this
              rw [if_pos (show b2i true = 1 from rfl), if_neg (show ¬ z_bad (2 : Int32) 7 by decide), po_nm2, po_nm2]
              exact this
            | false =>
              rw [hc] at this
              rw [if_neg (show ¬ b2i false = 1 by decide), if_neg (show ¬ z_bad (2 : Int32) 7 by decide), po_nm2, po_nm2]
              exact this
          · rw [if_neg (fun x => c3 (h3.mp x)), po_nm2, nI_S]
            exact ih (i + 1) v' q (adC tk a b c i) (by omega) (by omega) hv' (fun h => hq4 (by omega)) (fun h => hq0 (by omega)) (fun _ => rfl)
        have bits : ∀ (s : Int32), ((s &&& (1 : Int32)) = 1 ↔ (tb a i ^^ (tb b i ^^ adC tk a b c i)) = true) → k_Mo_add_101 (z_lo z_ADf f) a b (b2i tk) (nI n) v (b2i (adC tk a b c i)) (nI i) s (b2i (adC tk a b c (i + 1))) q = (f_Mo_result (adV tk a b c &&& mk n) (nI n) (adF tk a b c n m)).bind (fun r9 => some (adV tk a b c &&& mk n, r9)) := by
          intro s hs
          unfold k_Mo_add_101
          by_cases h : (tb a i ^^ (tb b i ^^ adC tk a b c i)) = true
          · rw [if_pos (hs.mpr h), po_nm2]
            refine go _ (fun j hj => ?_)
            rw [tb_or, hv j hj, tb_shl _ _ (by omega), tb_1, decide_eq_true hj]
            by_cases c1 : j < i
            · rw [decide_eq_true c1, decide_eq_true (show j < i + 1 by omega)]; simp
            · by_cases c2 : j = i
              · subst c2; rw [h]; simp
              · rw [decide_eq_false c1, decide_eq_false (show ¬ j < i + 1 by omega), decide_eq_false (show ¬ j - i < 1 by omega)]; simp
          · rw [if_neg (fun x => h (hs.mp x))]
            refine go _ (fun j hj => ?_)
            rw [hv j hj]
            by_cases c1 : j < i
            · rw [decide_eq_true c1, decide_eq_true (show j < i + 1 by omega)]
            · by_cases c2 : j = i
              · subst c2
                have h' : (tb a j ^^ (tb b j ^^ adC tk a b c j)) = false := by simpa using h
                rw [h']; simp
              · rw [decide_eq_false c1, decide_eq_false (show ¬ j < i + 1 by omega)]
        unfold k_Mo_add_77
        cases tk with
        | false =>
          obtain ⟨s1, s2⟩ := add_s0 (tb a i) (tb b i) (adC false a b c i)
          rw [if_pos (show b2i false = 0 from rfl), if_pos (show b2i false = 0 from rfl), s1]
          exact bits _ s2
        | true =>
          obtain ⟨s1, s2⟩ := add_s1 (tb a i) (tb b i) (adC true a b c i)
          rw [if_neg (show ¬ b2i true = 0 by decide), if_neg (show ¬ b2i true = 0 by decide)]
          have hS := adC_S true a b c i
          rw [if_pos rfl] at hS
          by_cases hc : ((!tb a i && tb b i) || (!(tb a i ^^ tb b i) && adC true a b c i)) = false
          · rw [if_pos (s1.mpr hc)]
            have := bits _ s2
            rw [hS, hc] at this
            exact this
          · rw [if_neg (fun x => hc (s1.mp x))]
            have hc' : ((!tb a i && tb b i) || (!(tb a i ^^ tb b i) && adC true a b c i)) = true := (Bool.not_eq_false _).mp hc
            have := bits _ s2
            rw [hS, hc'] at this
            exact this
  unfold f_Mo_add k_Mo_add_13 k_Mo_add_21
  have := loop 2000 0 0 m false (by omega) (by omega) (fun j hj => by rw [tb_0, decide_eq_false (by omega)]; rfl) (fun h => by omega) (fun _ => rfl) (fun h => by omega)
  rw [adC_0] at this
  cases c
  · rw [if_pos (show b2i false = 0 from rfl)]; exact this
  · rw [if_neg (show ¬ b2i true = 0 by decide)]; exact this
theorem pF_mk (v : Int64) {n : Nat} (h1 : 1 ≤ n) (h8 : n ≤ 8) : pF (v &&& mk n) = pF v := by
  have : ∀ i, i ≤ 8 → xr (v &&& mk n) i = xr v i := by
    intro i
    induction i with
    | zero => intro _; rfl
    | succ i ih =>
      intro h
      show (xr (v &&& mk n) i ^^ tb (v &&& mk n) i) = (xr v i ^^ tb v i)
      rw [ih (by omega), tb_and, tb_mk h8 i (by omega), decide_eq_true (show i < 8 * n by omega), Bool.and_true]
  unfold pF
  rw [this 8 (by omega)]
theorem and_mk2 (v : Int64) (n : Nat) : (v &&& mk n) &&& mk n = v &&& mk n := tb_ext (fun i _ => by rw [tb_and, tb_and]; cases tb v i <;> cases tb (mk n) i <;> rfl)
theorem zF_mk (v : Int64) (n : Nat) : zF (v &&& mk n) n = zF v n := by unfold zF; rw [and_mk2]
theorem sF_mk (v : Int64) {n : Nat} (h1 : 1 ≤ n) (h8 : n ≤ 8) : sF (v &&& mk n) n = sF v n := by
  unfold sF
  rw [tb_and, tb_mk h8 _ (by omega), decide_eq_true (show 8 * n - 1 < 8 * n by omega), Bool.and_true]
def rsF (v : Int64) (n : Nat) (m : z_Sg) : z_Sg := z_sN (z_sN (z_sN m 1 3 (b2i (zF v n))) 1 4 (b2i (sF v n))) 1 1 (b2i (pF v))
theorem M_add2 (tk : Bool) (a b : Int64) (c : Bool) {n : Nat} (h1 : 1 ≤ n) (h8 : n ≤ 8) (m : z_Sg) : f_Mo_add a b (b2i c) (b2i tk) (nI n) m = some (adV tk a b c &&& mk n, rsF (adV tk a b c) n (adF tk a b c n m)) := by
  rw [M_add tk a b c h1 h8, M_result _ h1 h8, po_bs2, zF_mk, sF_mk _ h1 h8, pF_mk _ h1 h8]
  rfl
theorem fw_ad (tk : Bool) (a b : Int64) (c : Bool) (v : Int64) (n : Nat) (m : z_Sg) : fw (z_gN (rsF v n (adF tk a b c n m)) 1) = fwB (adC tk a b c (8 * n)) (pF v) (adC tk a b c 4) (zF v n) (sF v n) (fb (z_gN m 1) 5) (adC tk a b c (8 * n) ^^ adC tk a b c (8 * n - 1)) := by
  rw [fw_B]
  have e : ∀ (b : Bool) (f : Nat → Int32) (j : Nat), f j = b2i b → fb f j = b := by
    intro b f j h
    unfold fb
    rw [h, b2i_b]
  rw [e (adC tk a b c (8 * n)) _ 0 rfl, e (pF v) _ 1 rfl, e (adC tk a b c 4) _ 2 rfl, e (zF v n) _ 3 rfl, e (sF v n) _ 4 rfl, e (adC tk a b c (8 * n) ^^ adC tk a b c (8 * n - 1)) _ 6 rfl]
  rfl
theorem mul_b : ∀ b : Bool, b2i b * (1 : Int32) = (if b then 1 else 0) ∧ b2i b * (16 : Int32) = (if b then 16 else 0) ∧ b2i b * (2048 : Int32) = (if b then 2048 else 0) := by decide
theorem or_fl : ∀ c p h z s o : Bool, (((fwB false p false z s false false ||| (if c then (1 : Int32) else 0)) ||| (if h then (16 : Int32) else 0)) ||| (if o then (2048 : Int32) else 0)) = fwB c p h z s false o := by decide +kernel
theorem set_six (f : Nat → Int32) (c p h z s o : Bool) (und : Int32) : (((fw f &&& (((2261 : Int32) ||| (0 : Int32)) ^^^ (-1 : Int32))) ||| (fwB c p h z s false o &&& (2261 : Int32))) ||| (und &&& (0 : Int32))) = fwB c p h z s (fb f 5) o := by
  rw [fw_B, show (2261 : Int32) = fwB true true true true true false true from by decide, show (0 : Int32) = fwB false false false false false false false from by decide, st_fw]
  simp only [tI_fwB, sel]
  simp
theorem K_settleSum {f : Nat → Int32} {k : z_Sg} (hf : z_gI k 0 = fw f) (v x w : Int64) {n : Nat} (h1 : 1 ≤ n) (h8 : n ≤ 8) : f_Ar_settleSum v x w (nI n) k = some (v &&& mk n, z_sI k 0 (fwB (tb x (8 * n - 1)) (pF v) (tb x 3) (zF v n) (sF v n) (fb f 5) (tb w (8 * n - 1)))) := by
  unfold f_Ar_settleSum
  rw [po_nm2, (z_64m h1 h8).2.2, K_flagsOf v h1 h8, po_bs2, po_nm2, bit_i _ (by omega), bit_i _ (by omega), show (3 : Int32) = nI 3 from rfl, bit_i _ (by omega), (mul_b _).1, (mul_b _).2.1, (mul_b _).2.2, or_fl, K_settle, po_bs2, K_maskOf h1 h8, po_bs2, hf, set_six]
theorem K_sum {f : Nat → Int32} {k : z_Sg} (hf : z_gI k 0 = fw f) (a b : Int64) (c : Bool) {n : Nat} (h1 : 1 ≤ n) (h8 : n ≤ 8) : f_Ar_sum a b (bL c) (nI n) k = some (adV false a b c &&& mk n, z_sI k 0 (fwB (adC false a b c (8 * n)) (pF (adV false a b c)) (adC false a b c 4) (zF (adV false a b c) n) (sF (adV false a b c) n) (fb f 5) (adC false a b c (8 * n) ^^ adC false a b c (8 * n - 1)))) := by
  unfold f_Ar_sum
  rw [po_nm2, po_nm2, K_settleSum hf _ _ _ h1 h8, po_bs2]
  have ec : ∀ t, t < 64 → tb ((a &&& b) ||| ((a ||| b) &&& (((a + b) + bL c) ^^^ (-1 : Int64)))) t = adC false a b c (t + 1) := by
    intro t ht
    rw [adC_S, tb_or, tb_and, tb_and, tb_or, tb_xor, tb_m1, tb_sum a b c t ht, decide_eq_true ht]
    show _ = ((tb a t && tb b t) || ((tb a t || tb b t) && cr a b c t))
    cases tb a t <;> cases tb b t <;> cases cr a b c t <;> rfl
  have eo : ∀ t, t < 64 → tb ((a ^^^ ((a + b) + bL c)) &&& (b ^^^ ((a + b) + bL c))) t = (adC false a b c (t + 1) ^^ adC false a b c t) := by
    intro t ht
    rw [adC_S, tb_and, tb_xor, tb_xor, tb_sum a b c t ht]
    show _ = (((tb a t && tb b t) || ((tb a t || tb b t) && cr a b c t)) ^^ cr a b c t)
    cases tb a t <;> cases tb b t <;> cases cr a b c t <;> rfl
  rw [ec _ (by omega), ec _ (by omega), eo _ (by omega), show 8 * n - 1 + 1 = 8 * n by omega]
  rfl
theorem K_difference {f : Nat → Int32} {k : z_Sg} (hf : z_gI k 0 = fw f) (a b : Int64) (c : Bool) {n : Nat} (h1 : 1 ≤ n) (h8 : n ≤ 8) : f_Ar_difference a b (bL c) (nI n) k = some (adV true a b c &&& mk n, z_sI k 0 (fwB (adC true a b c (8 * n)) (pF (adV true a b c)) (adC true a b c 4) (zF (adV true a b c) n) (sF (adV true a b c) n) (fb f 5) (adC true a b c (8 * n) ^^ adC true a b c (8 * n - 1)))) := by
  unfold f_Ar_difference
  rw [po_nm2, po_nm2, K_settleSum hf _ _ _ h1 h8, po_bs2]
  have ec : ∀ t, t < 64 → tb (((a ^^^ (-1 : Int64)) &&& b) ||| (((a ^^^ b) ^^^ (-1 : Int64)) &&& ((a - b) - bL c))) t = adC true a b c (t + 1) := by
    intro t ht
    rw [adC_S, tb_or, tb_and, tb_and, tb_xor, tb_xor, tb_xor, tb_m1, tb_dif a b c t ht, decide_eq_true ht]
    show _ = ((!tb a t && tb b t) || (!(tb a t ^^ tb b t) && br a b c t))
    cases tb a t <;> cases tb b t <;> cases br a b c t <;> rfl
  have eo : ∀ t, t < 64 → tb ((a ^^^ b) &&& (a ^^^ ((a - b) - bL c))) t = (adC true a b c (t + 1) ^^ adC true a b c t) := by
    intro t ht
    rw [adC_S, tb_and, tb_xor, tb_xor, tb_dif a b c t ht]
    show _ = (((!tb a t && tb b t) || (!(tb a t ^^ tb b t) && br a b c t)) ^^ br a b c t)
    cases tb a t <;> cases tb b t <;> cases br a b c t <;> rfl
  rw [ec _ (by omega), ec _ (by omega), eo _ (by omega), show 8 * n - 1 + 1 = 8 * n by omega]
  rfl
def em (n : Nat) (a b : Int64) : Prop := ∀ i, i < 8 * n → tb a i = tb b i
theorem em_mk {n : Nat} (h8 : n ≤ 8) (a : Int64) : em n (a &&& mk n) a := fun i hi => by rw [tb_and, tb_mk h8 i (by omega), decide_eq_true hi, Bool.and_true]
theorem em_s {n : Nat} {a b : Int64} (h : em n a b) : em n b a := fun i hi => (h i hi).symm
theorem em_t {n : Nat} {a b c : Int64} (h : em n a b) (h2 : em n b c) : em n a c := fun i hi => (h i hi).trans (h2 i hi)
theorem em_r (n : Nat) (a : Int64) : em n a a := fun _ _ => rfl
theorem em_iff {n : Nat} (h8 : n ≤ 8) (a b : Int64) : em n a b ↔ a &&& mk n = b &&& mk n := by
  constructor
  · intro h
    refine tb_ext (fun i hi => ?_)
    rw [tb_and, tb_and, tb_mk h8 i hi]
    by_cases c : i < 8 * n
    · rw [h i c]
    · rw [decide_eq_false c, Bool.and_false, Bool.and_false]
  · intro h i hi
    have := congrArg (fun y => tb y i) h
    rw [tb_and, tb_and, tb_mk h8 i (by omega), decide_eq_true hi, Bool.and_true, Bool.and_true] at this
    exact this
theorem em_pF {n : Nat} {a b : Int64} (h1 : 1 ≤ n) (h8 : n ≤ 8) (h : em n a b) : pF a = pF b := by rw [← pF_mk a h1 h8, (em_iff h8 a b).mp h, pF_mk b h1 h8]
theorem em_zF {n : Nat} {a b : Int64} (h8 : n ≤ 8) (h : em n a b) : zF a n = zF b n := by rw [← zF_mk a, (em_iff h8 a b).mp h, zF_mk b]
theorem em_sF {n : Nat} {a b : Int64} (h1 : 1 ≤ n) (h : em n a b) : sF a n = sF b n := h _ (by omega)
theorem em_adC {n : Nat} {a a' b b' : Int64} (ha : em n a a') (hb : em n b b') (tk c : Bool) : ∀ i, i ≤ 8 * n → adC tk a b c i = adC tk a' b' c i
  | 0, _ => by rw [adC_0, adC_0]
  | i + 1, h => by rw [adC_S, adC_S, em_adC ha hb tk c i (by omega), ha i (by omega), hb i (by omega)]
theorem em_adV {n : Nat} {a a' b b' : Int64} (h8 : n ≤ 8) (ha : em n a a') (hb : em n b b') (tk c : Bool) : em n (adV tk a b c) (adV tk a' b' c) := fun i hi => by
  rw [tb_adV _ _ _ _ i (by omega), tb_adV _ _ _ _ i (by omega), ha i hi, hb i hi, em_adC ha hb tk c i (by omega)]
