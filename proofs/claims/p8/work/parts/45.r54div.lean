theorem mk_N {n : Nat} (h1 : 1 ≤ n) (h8 : n ≤ 8) : mk n = lN (2 ^ (8 * n) - 1) := by
  unfold mk
  by_cases c : n < 8
  · rw [if_pos c]
  · rw [if_neg c, show n = 8 by omega]; rfl
theorem and_mkN {a n : Nat} (h1 : 1 ≤ n) (h8 : n ≤ 8) (ha : a < 2 ^ 64) : lN a &&& mk n = lN (a % 2 ^ (8 * n)) := by
  by_cases c : n < 8
  · rw [mk_N h1 h8, wb_mask ha (by omega)]
  · have : n = 8 := by omega
    subst this
    rw [and_m1, Nat.mod_eq_of_lt ha]
def dvG (sg : Bool) (u n : Nat) : Bool := sg && decide (2 ^ (8 * n - 1) ≤ u)
def dvD (sg : Bool) (u l n : Nat) : Nat := if dvG sg u n then 2 ^ (8 * n) * 2 ^ (8 * n) - (u * 2 ^ (8 * n) + l) else u * 2 ^ (8 * n) + l
def dvM (sg : Bool) (x n : Nat) : Nat := if dvG sg x n then 2 ^ (8 * n) - x else x
def dvO (sg : Bool) (u x n : Nat) : Bool := dvG sg u n ^^ dvG sg x n
def dvK (sg : Bool) (u l x n : Nat) : Prop := 0 < dvM sg x n ∧ dvD sg u l n / dvM sg x n < 2 ^ (8 * n) ∧ (sg = true → dvD sg u l n / dvM sg x n ≤ 2 ^ (8 * n - 1) - 1 + (if dvO sg u x n then 1 else 0))
theorem div_lt {T B N M : Nat} (hB : B < N) (hM : 0 < M) : (T * N + B) / M < N ↔ T < M := by
  rw [Nat.div_lt_iff_lt_mul hM]
  constructor
  · intro h
    have h2 : T * N < M * N := by rw [Nat.mul_comm M N]; omega
    exact Nat.lt_of_mul_lt_mul_right h2
  · intro h
    have : (T + 1) * N ≤ M * N := Nat.mul_le_mul_right N h
    rw [Nat.add_mul, Nat.one_mul] at this
    rw [Nat.mul_comm N M]
    omega
theorem sx_nonneg_N {u n : Nat} (h1 : 1 ≤ n) (h8 : n ≤ 8) (hu : u < 2 ^ (8 * n)) : ((0 : Int64) ≤ sx (lN u) n) ↔ ¬ 2 ^ (8 * n - 1) ≤ u := by
  rw [sx_neg _ h1 h8]
  unfold sF
  have e2 : 2 ^ (8 * n) = 2 * 2 ^ (8 * n - 1) := by rw [← Nat.pow_succ']; congr 1; omega
  rw [tb_N, decide_eq_true (by omega), Bool.true_and, Nat.testBit_eq_decide_div_mod_eq]
  have : u / 2 ^ (8 * n - 1) < 2 := by rw [Nat.div_lt_iff_lt_mul (Nat.two_pow_pos _)]; omega
  have h3 : 2 ^ (8 * n - 1) ≤ u ↔ u / 2 ^ (8 * n - 1) = 1 := by
    constructor
    · intro h
      have : 1 ≤ u / 2 ^ (8 * n - 1) := (Nat.one_le_div_iff (Nat.two_pow_pos _)).mpr h
      omega
    · intro h
      exact (Nat.one_le_div_iff (Nat.two_pow_pos _)).mp (by omega)
  rw [h3, decide_eq_false_iff_not]
  clear h3
  generalize u / 2 ^ (8 * n - 1) = w at *
  clear e2 hu
  omega
theorem K_div111 {n u l x : Nat} (hn : n = 1 ∨ n = 2 ∨ n = 4 ∨ n = 8) (hu : u < 2 ^ (8 * n)) (hl : l < 2 ^ (8 * n)) (hx : x < 2 ^ (8 * n)) (sg : Bool) (k : z_Sg) : ∃ T B, T < 2 ^ (8 * n) ∧ B < 2 ^ (8 * n) ∧ T * 2 ^ (8 * n) + B = dvD sg u l n ∧ f_Wi_divide (lN u) (lN l) (lN x) (nI n) (b2i sg) k = k_Wi_divide_111 (nI n) (b2i sg) (mk n) (b2i (dvG sg u n)) (b2i (dvG sg x n)) (lN (dvM sg x n)) (lN T) (lN B) k := by
  have h1 : 1 ≤ n := by omega
  have h8 : n ≤ 8 := by omega
  have hN : 2 ^ (8 * n) ≤ 2 ^ 64 := Nat.pow_le_pow_right (by decide) (by omega)
  have e2 : 2 ^ (8 * n) = 2 * 2 ^ (8 * n - 1) := by rw [← Nat.pow_succ']; congr 1; omega
  have hdv : 2 ^ 64 % 2 ^ (8 * n) = 0 := by rcases hn with rfl | rfl | rfl | rfl <;> decide
  have hpos : 0 < 2 ^ (8 * n - 1) := Nat.two_pow_pos _
  have negm : ∀ a, a ≤ 2 ^ (8 * n) → (-lN a) &&& mk n = lN ((2 ^ (8 * n) - a) % 2 ^ (8 * n)) := by
    intro a ha
    by_cases c : a = 0
    · subst c
      have e0 : -lN 0 = lN 0 := rfl
      rw [e0, and_mkN h1 h8 (by decide), Nat.sub_zero, Nat.mod_self, Nat.zero_mod]
    · rw [wN_neg (by omega), and_mkN h1 h8 (by omega)]
      congr 1
      rcases hn with rfl | rfl | rfl | rfl <;> omega
  have hmag : (if dvG sg x n then (-lN x) &&& mk n else lN x &&& mk n) = lN (dvM sg x n) := by
    unfold dvM
    cases hg : dvG sg x n with
    | false =>
      show lN x &&& mk n = lN x
      rw [and_mkN h1 h8 (by omega), Nat.mod_eq_of_lt hx]
    | true =>
      show (-lN x) &&& mk n = lN (2 ^ (8 * n) - x)
      have : 2 ^ (8 * n - 1) ≤ x := by
        unfold dvG at hg
        rw [Bool.and_eq_true] at hg
        exact of_decide_eq_true hg.2
      rw [negm x (by omega), Nat.mod_eq_of_lt (by omega)]
  have e67 : ∀ (t0 : Int64), t0 &&& mk n = lN (dvM sg x n) → ∃ T B, T < 2 ^ (8 * n) ∧ B < 2 ^ (8 * n) ∧ T * 2 ^ (8 * n) + B = dvD sg u l n ∧ k_Wi_divide_67 (lN u) (lN l) (nI n) (b2i sg) (mk n) (b2i (dvG sg u n)) (b2i (dvG sg x n)) t0 k = k_Wi_divide_111 (nI n) (b2i sg) (mk n) (b2i (dvG sg u n)) (b2i (dvG sg x n)) (lN (dvM sg x n)) (lN T) (lN B) k := by
    intro t0 ht0
    unfold k_Wi_divide_67 k_Wi_divide_106 dvD
    rw [po_nm2, ht0]
    cases hg : dvG sg u n with
    | false =>
      rw [if_pos (show b2i false = 0 from rfl)]
      exact ⟨u, l, hu, hl, rfl, rfl⟩
    | true =>
      have hu2 : 2 ^ (8 * n - 1) ≤ u := by
        unfold dvG at hg
        rw [Bool.and_eq_true] at hg
        exact of_decide_eq_true hg.2
      rw [if_neg (show ¬ b2i true = 0 by decide), po_nm2]
      have hz : lN l = 0 ↔ l = 0 := by rw [uN_0, uN_N (by omega)]
      have eN : (2 ^ (8 * n) - u) * 2 ^ (8 * n) = 2 ^ (8 * n) * 2 ^ (8 * n) - u * 2 ^ (8 * n) := Nat.sub_mul _ _ _
      have leN : u * 2 ^ (8 * n) + 2 ^ (8 * n) ≤ 2 ^ (8 * n) * 2 ^ (8 * n) := by
        have : (u + 1) * 2 ^ (8 * n) ≤ 2 ^ (8 * n) * 2 ^ (8 * n) := Nat.mul_le_mul_right _ hu
        rw [Nat.add_mul, Nat.one_mul] at this
        exact this
      by_cases cl : l = 0
      · refine ⟨2 ^ (8 * n) - u, 0, by omega, by omega, ?_, ?_⟩
        · rw [if_pos rfl, eN, cl]; omega
        · rw [if_pos (hz.mpr cl), po_nm2, negm u (by omega), negm l (by omega), cl, Nat.sub_zero, Nat.mod_self, Nat.mod_eq_of_lt (show 2 ^ (8 * n) - u < 2 ^ (8 * n) by omega)]
      · refine ⟨2 ^ (8 * n) - u - 1, 2 ^ (8 * n) - l, by omega, by omega, ?_, ?_⟩
        · rw [if_pos rfl, Nat.sub_mul, eN, Nat.one_mul]; omega
        · have en : (lN u ^^^ (-1 : Int64)) &&& mk n = lN (2 ^ (8 * n) - u - 1) := by
            rw [not_N (by omega), and_mkN h1 h8 (by omega)]
            congr 1
            rcases hn with rfl | rfl | rfl | rfl <;> omega
          rw [if_neg (fun z => cl (hz.mp z)), po_nm2, en, negm l (by omega), Nat.mod_eq_of_lt (show 2 ^ (8 * n) - l < 2 ^ (8 * n) by omega)]
  have e28 : ∃ T B, T < 2 ^ (8 * n) ∧ B < 2 ^ (8 * n) ∧ T * 2 ^ (8 * n) + B = dvD sg u l n ∧ k_Wi_divide_28 (lN u) (lN l) (lN x) (nI n) (b2i sg) (mk n) (b2i (dvG sg u n)) k = k_Wi_divide_111 (nI n) (b2i sg) (mk n) (b2i (dvG sg u n)) (b2i (dvG sg x n)) (lN (dvM sg x n)) (lN T) (lN B) k := by
    unfold k_Wi_divide_28 k_Wi_divide_51
    have g0 : dvG sg x n = false → k_Wi_divide_52 (lN u) (lN l) (lN x) (nI n) (b2i sg) (mk n) (b2i (dvG sg u n)) 0 k = k_Wi_divide_67 (lN u) (lN l) (nI n) (b2i sg) (mk n) (b2i (dvG sg u n)) (b2i (dvG sg x n)) (lN x) k := by
      intro h; rw [h]; rfl
    have g1 : dvG sg x n = true → k_Wi_divide_52 (lN u) (lN l) (lN x) (nI n) (b2i sg) (mk n) (b2i (dvG sg u n)) 1 k = k_Wi_divide_67 (lN u) (lN l) (nI n) (b2i sg) (mk n) (b2i (dvG sg u n)) (b2i (dvG sg x n)) (-lN x) k := by
      intro h; rw [h]; rfl
    cases hsg : sg with
    | false =>
      rw [if_pos (show b2i false = 0 from rfl), ← hsg]
      have hx0 : dvG sg x n = false := by rw [hsg]; rfl
      rw [g0 hx0]
      rw [hx0] at hmag
      exact e67 _ hmag
    | true =>
      rw [if_neg (show ¬ b2i true = 0 by decide), K_signed _ h1 h8, po_bs2, ← hsg]
      by_cases cx : 2 ^ (8 * n - 1) ≤ x
      · have hx1 : dvG sg x n = true := by unfold dvG; rw [hsg, decide_eq_true cx]; rfl
        rw [if_neg (fun z => (sx_nonneg_N h1 h8 hx).mp z cx), g1 hx1]
        rw [hx1] at hmag
        exact e67 _ hmag
      · have hx0 : dvG sg x n = false := by unfold dvG; rw [hsg, decide_eq_false cx]; rfl
        rw [if_pos ((sx_nonneg_N h1 h8 hx).mpr cx), g0 hx0]
        rw [hx0] at hmag
        exact e67 _ hmag
  unfold f_Wi_divide k_Wi_divide_27
  rw [K_maskOf h1 h8, po_bs2]
  cases hsg : sg with
  | false =>
    rw [if_pos (show b2i false = 0 from rfl)]
    rw [hsg] at e28
    exact e28
  | true =>
    rw [if_neg (show ¬ b2i true = 0 by decide), K_signed _ h1 h8, po_bs2]
    rw [hsg] at e28
    by_cases cu : 2 ^ (8 * n - 1) ≤ u
    · rw [if_neg (fun z => (sx_nonneg_N h1 h8 hu).mp z cu)]
      have hu1 : dvG true u n = true := by unfold dvG; rw [decide_eq_true cu]; rfl
      rw [hu1] at e28 ⊢
      exact e28
    · rw [if_pos ((sx_nonneg_N h1 h8 hu).mpr cu)]
      have hu0 : dvG true u n = false := by unfold dvG; rw [decide_eq_false cu]; rfl
      rw [hu0] at e28 ⊢
      exact e28
theorem K_div {f : Nat → Int32} {k : z_Sg} (hf : z_gI k 0 = fw f) {n u l x : Nat} (hn : n = 1 ∨ n = 2 ∨ n = 4 ∨ n = 8) (hu : u < 2 ^ (8 * n)) (hl : l < 2 ^ (8 * n)) (hx : x < 2 ^ (8 * n)) (sg : Bool) : (¬ dvK sg u l x n → ∃ k', f_Wi_divide (lN u) (lN l) (lN x) (nI n) (b2i sg) k = some (0, k') ∧ fr [11, 12] [] [] [] k k') ∧ (dvK sg u l x n → ∃ k', f_Wi_divide (lN u) (lN l) (lN x) (nI n) (b2i sg) k = some (1, k') ∧ fr [11, 12] [0] [] [] k k' ∧ z_gL k' 11 = (if dvO sg u x n then -lN (dvD sg u l n / dvM sg x n) else lN (dvD sg u l n / dvM sg x n)) &&& mk n ∧ z_gL k' 12 = (if dvG sg u n then -lN (dvD sg u l n % dvM sg x n) else lN (dvD sg u l n % dvM sg x n)) &&& mk n ∧ z_gI k' 0 = fwB (tb (z_gL k 4) 0) (tb (z_gL k 4) 2) (tb (z_gL k 4) 4) (tb (z_gL k 4) 6) (tb (z_gL k 4) 7) (fb f 5) (tb (z_gL k 4) 11)) := by
  have h1 : 1 ≤ n := by omega
  have h8 : n ≤ 8 := by omega
  have hN : 2 ^ (8 * n) ≤ 2 ^ 64 := Nat.pow_le_pow_right (by decide) (by omega)
  have e2 : 2 ^ (8 * n) = 2 * 2 ^ (8 * n - 1) := by rw [← Nat.pow_succ']; congr 1; omega
  have hpos : 0 < 2 ^ (8 * n - 1) := Nat.two_pow_pos _
  obtain ⟨T, B, hT, hB, hD, hdiv⟩ := K_div111 hn hu hl hx sg k
  have hM : dvM sg x n < 2 ^ (8 * n) ∨ dvM sg x n ≤ 2 ^ (8 * n) := by
    unfold dvM; split <;> omega
  have hM64 : dvM sg x n < 2 ^ 64 := by
    unfold dvM
    cases hg : dvG sg x n with
    | false => show x < 2 ^ 64; omega
    | true =>
      have : 2 ^ (8 * n - 1) ≤ x := by
        unfold dvG at hg
        rw [Bool.and_eq_true] at hg
        exact of_decide_eq_true hg.2
      show 2 ^ (8 * n) - x < 2 ^ 64
      omega
  rw [hdiv]
  unfold k_Wi_divide_111 k_Wi_divide_128 dvK
  generalize hMM : dvM sg x n = M at *
  generalize hDD : dvD sg u l n = D at *
  have hz : lN M = 0 ↔ M = 0 := by rw [uN_0, uN_N hM64]
  by_cases cM : M = 0
  · rw [if_pos (hz.mpr cM)]
    exact ⟨fun _ => ⟨k, rfl, fr_0⟩, fun h => by omega⟩
  · rw [if_neg (fun z => cM (hz.mp z)), K_isBelow, po_bs2, uN_N (by omega), uN_N hM64]
    have hQ : D / M < 2 ^ (8 * n) ↔ T < M := by rw [← hD]; exact div_lt hB (by omega)
    by_cases cT : T < M
    · rw [decide_eq_true cT, if_neg (show ¬ b2i true = 0 by decide), (z_64m h1 h8).2.1]
      obtain ⟨q', d1, d2, d3, d4⟩ := K_dm (s := 8 * n) (by omega) cT hM64 hB k
      rw [d1, po_bs2]
      rw [hD] at d2 d3
      have hQ' := hQ.mpr cT
      have hop : ∀ A B : Option (Int32 × z_Sg), (if b2i (dvG sg u n) = b2i (dvG sg x n) then A else B) = if b2i (dvO sg u x n) = 0 then A else B := by
        intro A B
        unfold dvO
        cases dvG sg u n <;> cases dvG sg x n <;> rfl
      have tail : ∃ k', k_Wi_divide_195 (mk n) (b2i (dvG sg u n)) (b2i (dvO sg u x n)) q' = some (1, k') ∧ fr [11, 12] [0] [] [] k k' ∧ z_gL k' 11 = (if dvO sg u x n then -lN (D / M) else lN (D / M)) &&& mk n ∧ z_gL k' 12 = (if dvG sg u n then -lN (D % M) else lN (D % M)) &&& mk n ∧ z_gI k' 0 = fwB (tb (z_gL k 4) 0) (tb (z_gL k 4) 2) (tb (z_gL k 4) 4) (tb (z_gL k 4) 6) (tb (z_gL k 4) 7) (fb f 5) (tb (z_gL k 4) 11) := by
        have k237 : ∀ (q2 : z_Sg) (t1 : Int64), fr [11, 12] [] [] [] k q2 → k_Wi_divide_237 (mk n) t1 q2 = some (1, z_sI (z_sL q2 12 (t1 &&& mk n)) 0 (fwB (tb (z_gL k 4) 0) (tb (z_gL k 4) 2) (tb (z_gL k 4) 4) (tb (z_gL k 4) 6) (tb (z_gL k 4) 7) (fb f 5) (tb (z_gL k 4) 11))) := by
          intro q2 t1 hq2
          have hf2 : z_gI (z_sL q2 12 (t1 &&& mk n)) 0 = fw f := by show z_gI q2 0 = _; rw [fr_I hq2 0 (by decide)]; exact hf
          have e4 : z_gL (z_sL q2 12 (t1 &&& mk n)) 4 = z_gL k 4 := by show z_gL q2 4 = _; exact fr_L hq2 4 (by decide)
          unfold k_Wi_divide_237
          rw [po_nm2, K_set hf2 (show (0 : Int32) = fwB false false false false false false false by decide) (show (2261 : Int32) = fwB true true true true true false true by decide) (show (0 : Int32) = fwB false false false false false false false by decide), po_bs2, e4]
          simp [sel]
        unfold k_Wi_divide_195 k_Wi_divide_213
        rw [d2]
        have f11 : ∀ v, fr [11, 12] [] [] [] k (z_sL q' 11 v) := fun v => fr_sL d4 (by decide)
        have e12 : ∀ v, z_gL (z_sL q' 11 v) 12 = lN (D % M) := fun v => d3
        cases dvO sg u x n <;> cases dvG sg u n
        · rw [if_pos (show b2i false = 0 from rfl), po_nm2, if_pos (show b2i false = 0 from rfl), e12, k237 _ _ (f11 _)]
          exact ⟨_, rfl, fr_sI (fr_sL (fr_w (f11 _) (by decide) (by decide) (by decide) (by decide)) (by decide)) (by decide), rfl, rfl, rfl⟩
        · rw [if_pos (show b2i false = 0 from rfl), po_nm2, if_neg (show ¬ b2i true = 0 by decide), e12, k237 _ _ (f11 _)]
          exact ⟨_, rfl, fr_sI (fr_sL (fr_w (f11 _) (by decide) (by decide) (by decide) (by decide)) (by decide)) (by decide), rfl, rfl, rfl⟩
        · rw [if_neg (show ¬ b2i true = 0 by decide), po_nm2, if_pos (show b2i false = 0 from rfl), e12, k237 _ _ (f11 _)]
          exact ⟨_, rfl, fr_sI (fr_sL (fr_w (f11 _) (by decide) (by decide) (by decide) (by decide)) (by decide)) (by decide), rfl, rfl, rfl⟩
        · rw [if_neg (show ¬ b2i true = 0 by decide), po_nm2, if_neg (show ¬ b2i true = 0 by decide), e12, k237 _ _ (f11 _)]
          exact ⟨_, rfl, fr_sI (fr_sL (fr_w (f11 _) (by decide) (by decide) (by decide) (by decide)) (by decide)) (by decide), rfl, rfl, rfl⟩
      have e157 : (if b2i (dvO sg u x n) = 0 then (k_Wi_divide_157 (b2i sg) (mk n) (b2i (dvG sg u n)) (0 : Int32) q') else (k_Wi_divide_157 (b2i sg) (mk n) (b2i (dvG sg u n)) (1 : Int32) q')) = k_Wi_divide_173 (b2i sg) (mk n) (b2i (dvG sg u n)) (b2i (dvO sg u x n)) (z_lushr (mk n) 1) (lN (if dvO sg u x n then 1 else 0)) q' := by
        cases dvO sg u x n <;> rfl
      rw [hop, e157]
      unfold k_Wi_divide_173
      have em : (z_lushr (mk n) 1) + lN (if dvO sg u x n then 1 else 0) = lN (2 ^ (8 * n - 1) - 1 + (if dvO sg u x n then 1 else 0)) := by
        rw [mk_N h1 h8, show (1 : Int32) = nI 1 from rfl, z_lushr_N (by omega) (by decide), wN_add]
        congr 2
        omega
      rw [po_nm2, em]
      cases hsg : sg with
      | false =>
        rw [if_pos (show b2i false = 0 from rfl)]
        rw [hsg] at tail
        exact ⟨fun h => absurd ⟨by omega, hQ', fun z => by cases z⟩ h, fun _ => tail⟩
      | true =>
        rw [hsg] at tail
        rw [if_neg (show ¬ b2i true = 0 by decide), d2, K_isBelow, po_bs2, uN_N (by split <;> omega), uN_N (by omega)]
        by_cases cg : D / M ≤ 2 ^ (8 * n - 1) - 1 + (if dvO true u x n then 1 else 0)
        · rw [decide_eq_false (by omega), if_pos (show b2i false = 0 from rfl)]
          exact ⟨fun h => absurd ⟨by omega, hQ', fun _ => cg⟩ h, fun _ => tail⟩
        · rw [decide_eq_true (by omega), if_neg (show ¬ b2i true = 0 by decide)]
          exact ⟨fun _ => ⟨q', rfl, d4⟩, fun h => absurd (h.2.2 rfl) cg⟩
    · rw [decide_eq_false cT, if_pos (show b2i false = 0 from rfl)]
      exact ⟨fun _ => ⟨k, rfl, fr_0⟩, fun h => absurd (hQ.mp h.2.1) cT⟩
