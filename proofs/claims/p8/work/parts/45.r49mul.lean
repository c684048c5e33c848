def sH (a b : Int64) : Int64 := uH a b - ((if a < 0 then b else 0) + (if b < 0 then a else 0))
theorem not_N {n : Nat} (h : n < 2 ^ 64) : lN n ^^^ (-1 : Int64) = lN (2 ^ 64 - 1 - n) := by
  refine wb_inj ?_
  rw [Int64.toBitVec_xor]
  show (lN n).toBitVec ^^^ BitVec.allOnes 64 = _
  rw [BitVec.xor_allOnes, wb_tb, wb_tb]
  refine BitVec.eq_of_toNat_eq ?_
  rw [BitVec.toNat_not, BitVec.toNat_ofNat, BitVec.toNat_ofNat, Nat.mod_eq_of_lt h]
  omega
theorem wN_sub2 {a b : Nat} (hb : b ≤ 2 ^ 64) : lN a - lN b = lN (a + (2 ^ 64 - b)) := by
  have e : lN a = lN (a + 2 ^ 64) := wN_eq (by omega)
  rw [e, wN_sub (by omega)]
  congr 1
  omega
theorem turn_ok (q : z_Sg) {l h : Nat} (hl : z_gL q 8 = lN l) (hh : z_gL q 9 = lN h) (l64 : l < 2 ^ 64) (h64 : h < 2 ^ 64) : ∃ q', f_Mo_turnSign q = some q' ∧ z_gL q' 8 = lN (2 ^ 64 - l) ∧ z_gL q' 9 = lN (2 ^ 64 - 1 - h + (if l = 0 then 1 else 0)) ∧ fr [8, 9] [] [] [] q q' := by
  unfold f_Mo_turnSign k_Mo_turnSign_32
  rw [po_nm2]
  show ∃ q', (if -z_gL q 8 = 0 then _ else _) = some q' ∧ _
  have e8 : -z_gL q 8 = lN (2 ^ 64 - l) := by rw [hl, wN_neg (by omega)]
  rw [e8]
  have hz : lN (2 ^ 64 - l) = 0 ↔ l = 0 := by
    rw [uN_0, uN_M]; omega
  have h9 : z_gL (z_sL q 8 (lN (2 ^ 64 - l))) 9 = lN h := hh
  by_cases c : l = 0
  · rw [if_pos (hz.mpr c), po_nm2, h9, not_N h64, if_pos c, show (1 : Int64) = lN 1 from rfl, wN_add]
    exact ⟨_, rfl, rfl, rfl, fr_sL (fr_sL fr_0 (by decide)) (by decide)⟩
  · rw [if_neg (fun x => c (hz.mp x)), po_nm2, h9, not_N h64, if_neg c, Int64.add_zero, Nat.add_zero]
    exact ⟨_, rfl, rfl, rfl, fr_sL (fr_sL fr_0 (by decide)) (by decide)⟩
theorem M_mulS (a b : Int64) (m : z_Sg) : ∃ m', f_Mo_multiplySigned a b m = some m' ∧ z_gL m' 8 = a * b ∧ z_gL m' 9 = sH a b ∧ fr [8, 9] [] [] [] m m' := by
  obtain ⟨A, hA, rfl⟩ := wb_of a
  obtain ⟨B, hB, rfl⟩ := wb_of b
  have na := uN_neg (lN A)
  have nb := uN_neg (lN B)
  have pa := uN_nn (lN A)
  have pb := uN_nn (lN B)
  rw [uN_N hA] at na pa
  rw [uN_N hB] at nb pb
  have hP := mul_lt hA hB
  unfold f_Mo_multiplySigned k_Mo_multiplySigned_13 k_Mo_multiplySigned_25 k_Mo_multiplySigned_39 k_Mo_multiplySigned_50 k_Mo_multiplySigned_57 sH
  by_cases ca : A < 2 ^ 63
  · rw [if_pos (pa.mpr ca), if_neg (show ¬ lN A < 0 from fun x => by have := na.mp x; omega)]
    by_cases cb : B < 2 ^ 63
    · obtain ⟨m', k1, k2, k3, k4⟩ := M_mul (lN A) (lN B) m
      rw [if_pos (pb.mpr cb), if_neg (show ¬ lN B < 0 from fun x => by have := nb.mp x; omega), k1, po_bs2, if_pos (pa.mpr ca), if_pos (pb.mpr cb), if_pos (show (0 : Int32) = 0 from rfl), Int64.add_zero, Int64.sub_zero]
      exact ⟨m', rfl, k2, k3, k4⟩
    · obtain ⟨m', k1, k2, k3, k4⟩ := M_mul (lN A) (-lN B) m
      have pb' : ¬ (0 : Int64) ≤ lN B := fun x => cb (pb.mp x)
      rw [if_neg pb', if_pos (show lN B < 0 from nb.mpr (by omega)), k1, po_bs2, if_pos (pa.mpr ca), if_neg pb', if_neg (show ¬ (0 : Int32) = 1 by decide)]
      rw [wN_neg (by omega)] at k2 k3
      rw [wN_mul] at k2
      unfold uH at k3
      rw [uN_N hA, uN_N (by omega)] at k3
      have eP : A * (2 ^ 64 - B) = 2 ^ 64 * A - A * B := by rw [Nat.mul_sub, Nat.mul_comm A (2 ^ 64)]
      have leP : A * B ≤ 2 ^ 64 * A := by rw [Nat.mul_comm (2 ^ 64) A]; exact Nat.mul_le_mul_left A (by omega)
      rw [eP] at k2 k3
      have k2' : z_gL m' 8 = lN ((2 ^ 64 * A - A * B) % 2 ^ 64) := by rw [k2]; exact wb_mod _
      obtain ⟨q', t1, t2, t3, t4⟩ := turn_ok m' k2' k3 (Nat.mod_lt _ (by decide)) (by omega)
      rw [t1, po_bs2]
      refine ⟨q', rfl, ?_, ?_, fr_t k4 t4⟩
      · rw [t2, wN_mul]; exact wN_eq (by omega)
      · rw [t3]
        unfold uH
        rw [uN_N hA, uN_N hB, Int64.zero_add, wN_sub2 (by omega)]
        refine wN_eq ?_
        generalize A * B = P at *
        split <;> omega
  · have pa' : ¬ (0 : Int64) ≤ lN A := fun x => ca (pa.mp x)
    rw [if_neg pa', if_pos (show lN A < 0 from na.mpr (by omega))]
    by_cases cb : B < 2 ^ 63
    · obtain ⟨m', k1, k2, k3, k4⟩ := M_mul (-lN A) (lN B) m
      rw [if_pos (pb.mpr cb), if_neg (show ¬ lN B < 0 from fun x => by have := nb.mp x; omega), k1, po_bs2, if_neg pa', if_pos (pb.mpr cb), if_neg (show ¬ (1 : Int32) = 0 by decide)]
      rw [wN_neg (by omega)] at k2 k3
      rw [wN_mul] at k2
      unfold uH at k3
      rw [uN_N hB, uN_N (by omega)] at k3
      have eP : (2 ^ 64 - A) * B = 2 ^ 64 * B - A * B := Nat.sub_mul _ _ _
      have leP : A * B ≤ 2 ^ 64 * B := Nat.mul_le_mul_right B (by omega)
      rw [eP] at k2 k3
      have k2' : z_gL m' 8 = lN ((2 ^ 64 * B - A * B) % 2 ^ 64) := by rw [k2]; exact wb_mod _
      obtain ⟨q', t1, t2, t3, t4⟩ := turn_ok m' k2' k3 (Nat.mod_lt _ (by decide)) (by omega)
      rw [t1, po_bs2]
      refine ⟨q', rfl, ?_, ?_, fr_t k4 t4⟩
      · rw [t2, wN_mul]; exact wN_eq (by omega)
      · rw [t3]
        unfold uH
        rw [uN_N hA, uN_N hB, Int64.add_zero, wN_sub2 (by omega)]
        refine wN_eq ?_
        generalize A * B = P at *
        split <;> omega
    · have pb' : ¬ (0 : Int64) ≤ lN B := fun x => cb (pb.mp x)
      obtain ⟨m', k1, k2, k3, k4⟩ := M_mul (-lN A) (-lN B) m
      rw [if_neg pb', if_pos (show lN B < 0 from nb.mpr (by omega)), k1, po_bs2, if_neg pa', if_neg pb', if_pos (show (1 : Int32) = 1 from rfl)]
      rw [wN_neg (by omega), wN_neg (by omega)] at k2 k3
      rw [wN_mul] at k2
      unfold uH at k3
      rw [uN_N (by omega), uN_N (by omega)] at k3
      have eP : (2 ^ 64 - A) * (2 ^ 64 - B) + 2 ^ 64 * (A + B) = 2 ^ 64 * 2 ^ 64 + A * B := by
        obtain ⟨x, hx⟩ : ∃ x, A + x = 2 ^ 64 := ⟨2 ^ 64 - A, by omega⟩
        obtain ⟨y, hy⟩ : ∃ y, B + y = 2 ^ 64 := ⟨2 ^ 64 - B, by omega⟩
        rw [show 2 ^ 64 - A = x by omega, show 2 ^ 64 - B = y by omega]
        have e1 : 2 ^ 64 * (A + B) = (B + y) * A + (A + x) * B := by rw [hx, hy, Nat.mul_add]
        have e2 : 2 ^ 64 * 2 ^ 64 = (A + x) * (B + y) := by rw [hx, hy]
        rw [e1, e2, Nat.add_mul, Nat.add_mul, Nat.add_mul, Nat.mul_add, Nat.mul_add]
        have c1 := Nat.mul_comm B A
        have c2 := Nat.mul_comm y A
        omega
      refine ⟨m', rfl, ?_, ?_, k4⟩
      · rw [k2, wN_mul]
        refine wN_eq ?_
        generalize (2 ^ 64 - A) * (2 ^ 64 - B) = X at *
        generalize A * B = P at *
        omega
      · rw [k3]
        unfold uH
        rw [uN_N hA, uN_N hB, wN_add, wb_mod (B + A), wN_sub2 (Nat.le_of_lt (Nat.mod_lt _ (by decide)))]
        refine wN_eq ?_
        generalize (2 ^ 64 - A) * (2 ^ 64 - B) = X at *
        generalize A * B = P at *
        omega
def prP (sg : Bool) (a b : Int64) (n : Nat) : Int64 := if sg then sx a n * sx b n else a * b
def hiN (sg : Bool) (a b : Int64) (n : Nat) : Int64 := if n = 8 then (if sg then sH a b else uH a b) else (z_lushr (prP sg a b n) (nI (8 * n))) &&& mk n
def spl (sg : Bool) (lo hi : Int64) (n : Nat) : Bool := decide (¬ hi = if sg && sF lo n then mk n else 0)
theorem sx_8 (a : Int64) : sx a 8 = a := tb_ext (fun i hi => by rw [tb_sx a (by decide) (by decide) i hi, if_pos (by omega)])
theorem mk_8 : mk 8 = -1 := rfl
theorem and_m1 (a : Int64) : a &&& mk 8 = a := tb_ext (fun i hi => by rw [tb_and, tb_mk (by decide) i hi, decide_eq_true (by omega), Bool.and_true])
theorem K_mtail {f : Nat → Int32} {k : z_Sg} (hf : z_gI k 0 = fw f) (sg : Bool) {n : Nat} (h1 : 1 ≤ n) (h8 : n ≤ 8) : k_Wi_multiply_119 (nI n) (b2i sg) k = some (z_sI k 0 (fwB (spl sg (z_gL k 11) (z_gL k 12) n) (tb (z_gL k 4) 2) (tb (z_gL k 4) 4) (tb (z_gL k 4) 6) (tb (z_gL k 4) 7) (fb f 5) (spl sg (z_gL k 11) (z_gL k 12) n))) := by
  have k172 : ∀ s : Bool, k_Wi_multiply_172 (b2i s) k = some (z_sI k 0 (fwB s (tb (z_gL k 4) 2) (tb (z_gL k 4) 4) (tb (z_gL k 4) 6) (tb (z_gL k 4) 7) (fb f 5) s)) := by
    intro s
    unfold k_Wi_multiply_172 k_Wi_multiply_193
    cases s
    · rw [if_pos (show b2i false = 0 from rfl), K_set hf (show (2049 : Int32) = fwB true false false false false false true by decide) (show (212 : Int32) = fwB false true true true true false false by decide) (show (0 : Int32) = fwB false false false false false false false by decide), po_bs2]
      simp [sel]
    · rw [if_neg (show ¬ b2i true = 0 by decide), K_set hf (show (2049 : Int32) = fwB true false false false false false true by decide) (show (212 : Int32) = fwB false true true true true false false by decide) (show (2049 : Int32) = fwB true false false false false false true by decide), po_bs2]
      simp [sel]
  have k163 : ∀ t : Int64, k_Wi_multiply_163 (z_gL k 12) t k = k_Wi_multiply_172 (b2i (decide (¬ z_gL k 12 = t))) k := by
    intro t
    unfold k_Wi_multiply_163
    by_cases c : z_gL k 12 = t
    · rw [if_pos c, decide_eq_false (fun x => x c)]; rfl
    · rw [if_neg c, decide_eq_true c]; rfl
  unfold k_Wi_multiply_119 k_Wi_multiply_142 k_Wi_multiply_143 spl
  cases sg with
  | false =>
    rw [if_pos (show b2i false = 0 from rfl), if_pos rfl, k163, k172]
    simp
  | true =>
    rw [if_neg (show ¬ b2i true = 0 by decide), K_signed _ h1 h8, po_bs2]
    cases hs : sF (z_gL k 11) n with
    | false =>
      rw [if_pos ((sx_neg _ h1 h8).mpr hs), if_pos rfl, k163, k172]
      simp
    | true =>
      rw [if_neg (fun x => by rw [(sx_neg _ h1 h8).mp x] at hs; cases hs), if_neg (by decide), K_maskOf h1 h8, po_bs2, k163, k172]
      simp
theorem K_mul {f : Nat → Int32} {k : z_Sg} (hf : z_gI k 0 = fw f) (sg : Bool) (a b : Int64) {n : Nat} (hn : n = 1 ∨ n = 2 ∨ n = 4 ∨ n = 8) : ∃ k', f_Wi_multiply a b (nI n) (b2i sg) k = some k' ∧ fr [11, 12] [0] [] [] k k' ∧ z_gL k' 11 = prP sg a b n &&& mk n ∧ z_gL k' 12 = hiN sg a b n ∧ z_gI k' 0 = fwB (spl sg (prP sg a b n &&& mk n) (hiN sg a b n) n) (tb (z_gL k 4) 2) (tb (z_gL k 4) 4) (tb (z_gL k 4) 6) (tb (z_gL k 4) 7) (fb f 5) (spl sg (prP sg a b n &&& mk n) (hiN sg a b n) n) := by
  have tail : ∀ lo hi : Int64, k_Wi_multiply_119 (nI n) (b2i sg) (z_sL (z_sL k 11 lo) 12 hi) = some (z_sI (z_sL (z_sL k 11 lo) 12 hi) 0 (fwB (spl sg lo hi n) (tb (z_gL k 4) 2) (tb (z_gL k 4) 4) (tb (z_gL k 4) 6) (tb (z_gL k 4) 7) (fb f 5) (spl sg lo hi n))) := fun lo hi => K_mtail (k := z_sL (z_sL k 11 lo) 12 hi) hf sg (by omega) (by omega)
  have fr2 : ∀ lo hi : Int64, ∀ v, fr [11, 12] [0] [] [] k (z_sI (z_sL (z_sL k 11 lo) 12 hi) 0 v) := fun lo hi v => fr_sI (fr_sL (fr_sL fr_0 (by decide)) (by decide)) (by decide)
  unfold f_Wi_multiply
  by_cases c8 : n = 8
  · subst c8
    rw [if_pos (show nI 8 = (8 : Int32) from rfl), po_nm2, K_upper64, po_bs2, po_nm2]
    have eP : prP sg a b 8 &&& mk 8 = a * b := by
      rw [and_m1]; unfold prP
      cases sg
      · rfl
      · show sx a 8 * sx b 8 = _; rw [sx_8, sx_8]
    rw [eP]
    cases sg with
    | false =>
      rw [if_pos (show b2i false = 0 from rfl), tail]
      exact ⟨_, rfl, fr2 _ _ _, rfl, rfl, rfl⟩
    | true =>
      rw [if_neg (show ¬ b2i true = 0 by decide)]
      unfold k_Wi_multiply_44 k_Wi_multiply_55
      have e12 : z_gL (z_sL (z_sL k 11 (a * b)) 12 (uH a b)) 12 = uH a b := rfl
      have ss : ∀ v, z_sL (z_sL (z_sL k 11 (a * b)) 12 (uH a b)) 12 v = z_sL (z_sL k 11 (a * b)) 12 v := by
        intro v
        refine Prod.ext (funext (fun j => ?_)) rfl
        show (if j = 12 then v else (if j = 12 then _ else z_gL (z_sL k 11 (a * b)) j)) = (if j = 12 then v else z_gL (z_sL k 11 (a * b)) j)
        by_cases cj : j = 12
        · rw [if_pos cj, if_pos cj]
        · rw [if_neg cj, if_neg cj, if_neg cj]
      have nn : ∀ x : Int64, ((0 : Int64) ≤ x) ↔ ¬ x < 0 := fun x => ⟨fun h => Int64.not_lt.mpr h, fun h => Int64.not_lt.mp h⟩
      have go : ∀ v, v = sH a b → ∃ k', k_Wi_multiply_119 (nI 8) (b2i true) (z_sL (z_sL (z_sL k 11 (a * b)) 12 (uH a b)) 12 v) = some k' ∧ fr [11, 12] [0] [] [] k k' ∧ z_gL k' 11 = a * b ∧ z_gL k' 12 = hiN true a b 8 ∧ z_gI k' 0 = fwB (spl true (a * b) (hiN true a b 8) 8) (tb (z_gL k 4) 2) (tb (z_gL k 4) 4) (tb (z_gL k 4) 6) (tb (z_gL k 4) 7) (fb f 5) (spl true (a * b) (hiN true a b 8) 8) := by
        intro v hv
        rw [ss, tail, hv]
        exact ⟨_, rfl, fr2 _ _ _, rfl, rfl, rfl⟩
      by_cases ca : a < 0
      · rw [if_neg (fun x => (nn a).mp x ca)]
        by_cases cb : b < 0
        · rw [if_neg (fun x => (nn b).mp x cb), po_nm2]
          exact go _ (by unfold sH; rw [if_pos ca, if_pos cb, e12])
        · rw [if_pos ((nn b).mpr cb), po_nm2]
          exact go _ (by unfold sH; rw [if_pos ca, if_neg cb, e12])
      · rw [if_pos ((nn a).mpr ca)]
        by_cases cb : b < 0
        · rw [if_neg (fun x => (nn b).mp x cb), po_nm2]
          exact go _ (by unfold sH; rw [if_neg ca, if_pos cb, e12])
        · rw [if_pos ((nn b).mpr cb), po_nm2]
          exact go _ (by unfold sH; rw [if_neg ca, if_neg cb, e12])
  · have n8 : ¬ nI n = (8 : Int32) := by rcases hn with rfl | rfl | rfl | rfl <;> first | decide | exact absurd rfl c8
    have h1 : 1 ≤ n := by omega
    have h8 : n ≤ 8 := by omega
    rw [if_neg n8]
    have e8 := (z_64m h1 h8).2.1
    have k87 : ∀ P, P = prP sg a b n → ∃ k', k_Wi_multiply_87 (nI n) (b2i sg) P k = some k' ∧ fr [11, 12] [0] [] [] k k' ∧ z_gL k' 11 = prP sg a b n &&& mk n ∧ z_gL k' 12 = hiN sg a b n ∧ z_gI k' 0 = fwB (spl sg (prP sg a b n &&& mk n) (hiN sg a b n) n) (tb (z_gL k 4) 2) (tb (z_gL k 4) 4) (tb (z_gL k 4) 6) (tb (z_gL k 4) 7) (fb f 5) (spl sg (prP sg a b n &&& mk n) (hiN sg a b n) n) := by
      intro P hP
      unfold k_Wi_multiply_87
      rw [K_maskOf h1 h8, po_bs2, po_nm2, K_maskOf h1 h8, po_bs2, po_nm2, e8, tail, hP]
      have eh : hiN sg a b n = (z_lushr (prP sg a b n) (nI (8 * n))) &&& mk n := by unfold hiN; rw [if_neg c8]
      rw [eh]
      exact ⟨_, rfl, fr2 _ _ _, rfl, rfl, rfl⟩
    cases sg with
    | false =>
      rw [if_pos (show b2i false = 0 from rfl)]
      exact k87 _ rfl
    | true =>
      rw [if_neg (show ¬ b2i true = 0 by decide), K_signed _ h1 h8, po_bs2, K_signed _ h1 h8, po_bs2]
      exact k87 _ rfl
def mcF (s : Bool) (m : z_Sg) : z_Sg := z_sN (z_sN (z_sN (z_sN (z_sN (z_sN m 1 0 (b2i s)) 1 6 (b2i s)) 1 4 (b2i (tb (z_gL m 4) 7))) 1 3 (b2i (tb (z_gL m 4) 6))) 1 2 (b2i (tb (z_gL m 4) 4))) 1 1 (b2i (tb (z_gL m 4) 2))
theorem M_much (s : Bool) (m : z_Sg) : f_Mo_muchFlags (b2i s) m = some (mcF s m) := by
  unfold f_Mo_muchFlags
  rw [if_neg (show ¬ z_bad (0 : Int32) 7 by decide), po_nm2, if_neg (show ¬ z_bad (6 : Int32) 7 by decide), po_nm2, b2i_nar, show (4 : Int32) = nI 4 from rfl, M_leave (by decide), po_bs2, show (3 : Int32) = nI 3 from rfl, M_leave (by decide), po_bs2, show (2 : Int32) = nI 2 from rfl, M_leave (by decide), po_bs2, show (1 : Int32) = nI 1 from rfl, M_leave (by decide), po_bs2]
  rfl
theorem fw_mc (s : Bool) (m : z_Sg) : fw (z_gN (mcF s m) 1) = fwB s (tb (z_gL m 4) 2) (tb (z_gL m 4) 4) (tb (z_gL m 4) 6) (tb (z_gL m 4) 7) (fb (z_gN m 1) 5) s := fw_of (fb_b rfl) (fb_b rfl) (fb_b rfl) (fb_b rfl) (fb_b rfl) rfl (fb_b rfl)
theorem mc_fr (s : Bool) (m : z_Sg) : fr [] [] [] [1] m (mcF s m) := fr_sN (fr_sN (fr_sN (fr_sN (fr_sN (fr_sN fr_0 (by decide)) (by decide)) (by decide)) (by decide)) (by decide)) (by decide)
