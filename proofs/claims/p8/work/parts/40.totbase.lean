/-! totality: every method answers, and keeps its system's numbers within bounds -/
def z_ok {α : Type} (x : Option α) (P : α → Prop) : Prop := ∃ a, x = some a ∧ P a
theorem z_ok_i {α : Type} {c : Prop} {d : Decidable c} {a b : Option α} {P : α → Prop} (h1 : c → z_ok a P) (h2 : ¬ c → z_ok b P) : z_ok (@ite _ c d a b) P := by
  by_cases h : c
  · rw [if_pos h]; exact h1 h
  · rw [if_neg h]; exact h2 h
theorem z_ok_g {α : Type} {c : Prop} {d : Decidable c} {b : Option α} {P : α → Prop} (h : ¬ c) (h2 : z_ok b P) : z_ok (@ite _ c d none b) P := by rw [if_neg h]; exact h2
theorem z_ok_G {α : Type} {c : Prop} {d : Decidable c} {a : Option α} {P : α → Prop} (h : c) (h2 : z_ok a P) : z_ok (@z_gd α c d a) P := by unfold z_gd; rw [if_pos h]; exact h2
theorem z_ok_n {α β : Type} {e : α} {k : α → Option β} {P : β → Prop} (h : ∀ n, n = e → z_ok (k n) P) : z_ok (z_nm e k) P := h e rfl
theorem z_ok_b {α β : Type} {x : Option α} {k : α → Option β} {R : α → Prop} {P : β → Prop} (h : z_ok x R) (h2 : ∀ a, R a → z_ok (k a) P) : z_ok (x.bind k) P := by
  obtain ⟨a, rfl, ha⟩ := h
  exact h2 a ha
theorem z_ok_s {α : Type} {a : α} {P : α → Prop} (h : P a) : z_ok (some a) P := ⟨a, rfl, h⟩
theorem z_ok_w {α : Type} {x : Option α} {P Q : α → Prop} (h : z_ok x P) (h2 : ∀ a, P a → Q a) : z_ok x Q := by
  obtain ⟨a, e, ha⟩ := h
  exact ⟨a, e, h2 a ha⟩
theorem z_ok_l {α β : Type} {F : (α → Option β) → α → Option β} (I : α → Prop) (μ : α → Nat) {P : β → Prop}
    (h : ∀ (ih : α → Option β) (a : α), I a → (∀ a', I a' → μ a' < μ a → z_ok (ih a') P) → z_ok (F ih a) P) (a : α) (ha : I a) (hm : μ a < 2000) : z_ok (z_lo F 2000 a) P := by
  have key : ∀ (n : Nat) (a : α), I a → μ a < n → z_ok (z_lo F n a) P := by
    intro n
    induction n with
    | zero => intro a _ h2; omega
    | succ n ih =>
      intro a ha hn
      exact h (z_lo F n) a ha (fun a' h1 h2 => ih a' h1 (by omega))
  exact key 2000 a ha hm
/-- a number between two -/
def y_in (x : Int32) (a b : Int) : Prop := a ≤ x.toInt ∧ x.toInt ≤ b
theorem z_full (x : Int32) : y_in x (-2147483648) 2147483647 := ⟨Int32.minValue_le_toInt x, by have := Int32.toInt_lt x; omega⟩
theorem z_w {x : Int32} {a b a' b' : Int} (h : y_in x a b) (h1 : a' ≤ a) (h2 : b ≤ b') : y_in x a' b' := ⟨Int.le_trans h1 h.1, Int.le_trans h.2 h2⟩
theorem z_e {x y : Int32} {a b : Int} (e : x = y) (h : y_in y a b) : y_in x a b := e ▸ h
theorem z_nbad {i : Int32} {n : Nat} {b : Int} (h : y_in i 0 b) (hb : b + 1 ≤ n) : ¬ z_bad i n := by
  intro hc
  rcases hc with hc | hc
  · have := Int32.lt_iff_toInt_lt.mp hc
    rw [Int32.toInt_zero] at this
    have := h.1
    omega
  · have h1 := h.2
    have h2 : i.toNatClampNeg = i.toInt.toNat := rfl
    rw [h2] at hc
    have := h.1
    omega
theorem z_bi {v : Int32} (h : y_in v 0 1) : z_bo v := by
  obtain ⟨h1, h2⟩ := h
  have : v.toInt = 0 ∨ v.toInt = 1 := by omega
  rcases this with e | e
  · exact Or.inl (Int32.toInt_inj.mp (by rw [e]; rfl))
  · exact Or.inr (Int32.toInt_inj.mp (by rw [e]; rfl))
theorem z_n0 {v : Int32} {a b : Int} (h : y_in v a b) (hn : 0 < a ∨ b < 0) : ¬ v = 0 := by
  rintro rfl
  obtain ⟨h1, h2⟩ := h
  rw [Int32.toInt_zero] at h1 h2
  omega
theorem z_bmod {a : Int} (h1 : -2147483648 ≤ a) (h2 : a ≤ 2147483647) : a.bmod (2 ^ 32) = a := by
  rw [Int.bmod_def]
  split <;> omega
theorem z_add {x y : Int32} {a b c d : Int} (hx : y_in x a b) (hy : y_in y c d) (h1 : -2147483648 ≤ a + c) (h2 : b + d ≤ 2147483647) : y_in (x + y) (a + c) (b + d) := by
  have e : (x + y).toInt = x.toInt + y.toInt := by
    rw [Int32.toInt_add]
    have := hx.1; have := hx.2; have := hy.1; have := hy.2
    exact z_bmod (by omega) (by omega)
  have := hx.1; have := hx.2; have := hy.1; have := hy.2
  exact ⟨by rw [e]; omega, by rw [e]; omega⟩
theorem z_sub {x y : Int32} {a b c d : Int} (hx : y_in x a b) (hy : y_in y c d) (h1 : -2147483648 ≤ a - d) (h2 : b - c ≤ 2147483647) : y_in (x - y) (a - d) (b - c) := by
  have e : (x - y).toInt = x.toInt - y.toInt := by
    rw [Int32.toInt_sub]
    have := hx.1; have := hx.2; have := hy.1; have := hy.2
    exact z_bmod (by omega) (by omega)
  have := hx.1; have := hx.2; have := hy.1; have := hy.2
  exact ⟨by rw [e]; omega, by rw [e]; omega⟩
/-- times a number that isn't negative -/
theorem z_mul {x y : Int32} {a b c d : Int} (hx : y_in x a b) (hy : y_in y c d) (ha : 0 ≤ a) (hc : 0 ≤ c) (h2 : b * d ≤ 2147483647) : y_in (x * y) (a * c) (b * d) := by
  have h3 := hx.1; have h4 := hx.2; have h5 := hy.1; have h6 := hy.2
  have p0 : 0 ≤ x.toInt * y.toInt := Int.mul_nonneg (by omega) (by omega)
  have p1 : x.toInt * y.toInt ≤ b * d := Int.mul_le_mul h4 h6 (by omega) (by omega)
  have p2 : a * c ≤ x.toInt * y.toInt := Int.mul_le_mul h3 h5 hc (by omega)
  have e : (x * y).toInt = x.toInt * y.toInt := by
    rw [Int32.toInt_mul]
    exact z_bmod (by omega) (by omega)
  exact ⟨by rw [e]; omega, by rw [e]; omega⟩
theorem z_tn {x : Int32} (h : 0 ≤ x.toInt) : (x.toBitVec.toNat : Int) = x.toInt := by
  have e : x.toInt = x.toBitVec.toInt := rfl
  rw [e] at h ⊢
  rw [BitVec.toInt_eq_toNat_cond] at h ⊢
  split
  · rfl
  · rename_i h2
    rw [if_neg h2] at h
    have := x.toBitVec.isLt
    omega
theorem z_ofN {x : Int32} (h : x.toBitVec.toNat < 2147483648) : x.toInt = (x.toBitVec.toNat : Int) := by
  show x.toBitVec.toInt = _
  rw [BitVec.toInt_eq_toNat_cond]
  rw [if_pos (by omega)]
theorem z_and {x y : Int32} {c d : Int} (hy : y_in y c d) (hc : 0 ≤ c) : y_in (x &&& y) 0 d := by
  have h1 := hy.1
  have hn := z_tn (x := y) (by omega)
  have h2 : (x &&& y).toBitVec.toNat ≤ y.toBitVec.toNat := by
    rw [Int32.toBitVec_and, BitVec.toNat_and]; exact Nat.and_le_right
  have h3 := hy.2
  have h4 : y.toInt < 2147483648 := Int32.toInt_lt y
  have e := z_ofN (x := x &&& y) (by omega)
  exact ⟨by rw [e]; omega, by rw [e]; omega⟩
theorem z_andl {x y : Int32} {a b : Int} (hx : y_in x a b) (ha : 0 ≤ a) : y_in (x &&& y) 0 b := by
  have h1 := hx.1
  have hn := z_tn (x := x) (by omega)
  have h2 : (x &&& y).toBitVec.toNat ≤ x.toBitVec.toNat := by
    rw [Int32.toBitVec_and, BitVec.toNat_and]; exact Nat.and_le_left
  have h3 := hx.2
  have h4 : x.toInt < 2147483648 := Int32.toInt_lt x
  have e := z_ofN (x := x &&& y) (by omega)
  exact ⟨by rw [e]; omega, by rw [e]; omega⟩
theorem z_or {x y : Int32} {a b c d : Int} (k : Nat) (hx : y_in x a b) (hy : y_in y c d) (ha : 0 ≤ a) (hc : 0 ≤ c) (hk : k ≤ 31) (hb : b < (2 ^ k : Nat)) (hd : d < (2 ^ k : Nat)) : y_in (x ||| y) 0 ((2 ^ k : Nat) - 1) := by
  have h1 := hx.1; have h2 := hx.2; have h3 := hy.1; have h4 := hy.2
  have e1 := z_tn (x := x) (by omega)
  have e2 := z_tn (x := y) (by omega)
  have hlt : (x ||| y).toBitVec.toNat < 2 ^ k := by
    rw [Int32.toBitVec_or, BitVec.toNat_or]
    exact Nat.or_lt_two_pow (by omega) (by omega)
  have h31 : 2 ^ k ≤ 2 ^ 31 := Nat.pow_le_pow_right (by decide) hk
  have e := z_ofN (x := x ||| y) (by omega)
  exact ⟨by rw [e]; omega, by rw [e]; omega⟩
theorem z_div {x y : Int32} {a b : Int} (n : Nat) (hx : y_in x a b) (ha : 0 ≤ a) (hy : y = nI n) (h0 : 0 < n) (hn : n < 2147483648) : y_in (x / y) 0 (b / n) := by
  subst hy
  obtain ⟨m, hm, rfl⟩ := nI_of (x := x) (fun h => by
    have := Int32.lt_iff_toInt_lt.mp h
    rw [Int32.toInt_zero] at this
    have := hx.1
    omega)
  have h1 := hx.2
  rw [nI_toInt hm] at h1
  rw [pk_div hm h0 (by omega)]
  have hq : m / n ≤ m := Nat.div_le_self _ _
  refine ⟨by rw [nI_toInt (by omega)]; first | exact Int.natCast_nonneg _ | exact Int.ofNat_nonneg _, ?_⟩
  rw [nI_toInt (by omega)]
  have : ((m / n : Nat) : Int) = (m : Int) / n := by simp
  rw [this]
  exact Int.ediv_le_ediv (by omega) h1
theorem z_mod {x y : Int32} {a b : Int} (n : Nat) (hx : y_in x a b) (ha : 0 ≤ a) (hy : y = nI n) (h0 : 0 < n) (hn : n < 2147483648) : y_in (x - x / y * y) 0 (n - 1) := by
  subst hy
  obtain ⟨m, hm, rfl⟩ := nI_of (x := x) (fun h => by
    have := Int32.lt_iff_toInt_lt.mp h
    rw [Int32.toInt_zero] at this
    have := hx.1
    omega)
  rw [pk_rem hm h0 (by omega)]
  have hq : m % n < n := Nat.mod_lt _ h0
  refine ⟨by rw [nI_toInt (by omega)]; omega, by rw [nI_toInt (by omega)]; omega⟩
theorem z_modv {x y : Int32} {a b c d : Int} (hx : y_in x a b) (hy : y_in y c d) (ha : 0 ≤ a) (hc : 0 < c) : y_in (x - x / y * y) 0 (d - 1) := by
  obtain ⟨n, hn, rfl⟩ := nI_of (x := y) (fun h => by
    have := Int32.lt_iff_toInt_lt.mp h
    rw [Int32.toInt_zero] at this
    have := hy.1
    omega)
  have h1 := hy.1; have h2 := hy.2
  rw [nI_toInt hn] at h1 h2
  exact z_w (z_mod n hx ha rfl (by omega) (by omega)) (Int.le_refl _) (by omega)
theorem z_modw {x y : Int32} {a b c d : Int} (hx : y_in x a b) (hy : y_in y c d) (ha : 0 ≤ a) (hc : 0 < c) : y_in (x - x / y * y) 0 b := by
  obtain ⟨n, hn, rfl⟩ := nI_of (x := y) (fun h => by
    have := Int32.lt_iff_toInt_lt.mp h
    rw [Int32.toInt_zero] at this
    have := hy.1
    omega)
  obtain ⟨k, hk, rfl⟩ := nI_of (x := x) (fun h => by
    have := Int32.lt_iff_toInt_lt.mp h
    rw [Int32.toInt_zero] at this
    have := hx.1
    omega)
  have h1 := hy.1; have h2 := hx.2
  rw [nI_toInt hn] at h1
  rw [nI_toInt hk] at h2
  rw [pk_rem hk (by omega) (by omega)]
  have hq : k % n ≤ k := Nat.mod_le _ _
  refine ⟨by rw [nI_toInt (by omega)]; omega, by rw [nI_toInt (by omega)]; omega⟩
/-- shifted right, unsigned or of a number that isn't negative -/
theorem z_shr {x : Int32} {a b : Int} (k : Nat) (s : Int32) (hs : (s.toBitVec.smod 32).toNat = k) (hx : y_in x a b) (ha : 0 ≤ a) : y_in (x >>> s) 0 b := by
  have h1 := hx.1; have h2 := hx.2
  have e := pk_shr x s k hs
  rw [Int.shiftRight_eq_div_pow] at e
  refine ⟨by rw [e]; exact Int.ediv_nonneg (by omega) (by exact Int.ofNat_nonneg _), ?_⟩
  rw [e]
  exact Int.le_trans (Int.ediv_le_self _ (by omega)) h2
theorem z_l2i {x : Int64} {n : Nat} {y : Int64} (hy : y = lN n) (hn : n < 2147483648) : y_in ((x &&& y).toInt32) 0 n := by
  subst hy
  obtain ⟨m, hm, rfl⟩ := wb_of x
  rw [wb_and hm (by omega), lN_i]
  have h1 : m &&& n ≤ n := Nat.and_le_right
  exact ⟨by rw [nI_toInt (by omega)]; omega, by rw [nI_toInt (by omega)]; omega⟩
def y_il (x : Int64) (a b : Int) : Prop := a ≤ x.toInt ∧ x.toInt ≤ b
theorem z_lfull (x : Int64) : y_il x (-9223372036854775808) 9223372036854775807 := ⟨Int64.minValue_le_toInt x, by have := Int64.toInt_lt x; omega⟩
theorem z_lw {x : Int64} {a b a' b' : Int} (h : y_il x a b) (h1 : a' ≤ a) (h2 : b ≤ b') : y_il x a' b' := ⟨Int.le_trans h1 h.1, Int.le_trans h.2 h2⟩
theorem z_le_ {x y : Int64} {a b : Int} (e : x = y) (h : y_il y a b) : y_il x a b := e ▸ h
theorem z_landl {x y : Int64} {n : Nat} (hy : y = lN n) (hn : n < 9223372036854775808) : y_il (x &&& y) 0 n := by
  subst hy
  obtain ⟨m, hm, rfl⟩ := wb_of x
  rw [wb_and hm (by omega)]
  have h1 : m &&& n ≤ n := Nat.and_le_right
  exact ⟨by rw [pk_lT (by omega)]; omega, by rw [pk_lT (by omega)]; omega⟩
/-- a table's entry, if it lies in memory, is one of the words -/
theorem z_ixl {x y n : Int64} (hx : y_il x 0 4503599627366400) (e : n = x + z_lshl (y &&& 511) 3) (h : ¬ (32768 : Int64) ≤ n) : ¬ z_bad ((z_lushr n 3).toInt32) 4096 := by
  obtain ⟨k, hk, rfl⟩ := pk_lOf (x := x) (fun h => by
    have := Int64.lt_iff_toInt_lt.mp h
    rw [Int64.toInt_zero] at this
    have := hx.1
    omega)
  have h1 := hx.2
  rw [pk_lT hk] at h1
  obtain ⟨m, hm, e2⟩ : ∃ m, m < 512 ∧ (y &&& 511) = lN m := by
    obtain ⟨j, hj, rfl⟩ := wb_of y
    exact ⟨j % 512, Nat.mod_lt _ (by decide), wb_mask (k := 9) hj (by decide)⟩
  rw [e2, show (3 : Int32) = nI 3 from rfl, z_lshl_N _ (by decide), lN_add] at e
  subst e
  have h2 : k + m * 2 ^ 3 < 32768 := by
    rw [show (32768 : Int64) = lN 32768 from rfl, pk_lLE (by decide) (by omega)] at h
    omega
  rw [show (3 : Int32) = nI 3 from rfl, z_lushr_N (by omega) (by decide), lN_i]
  exact vp_in_nI (by omega) (by decide)
/-! what a branch tells -/
theorem z_lt1 {x y : Int32} {a b c d : Int} (h : x < y) (hx : y_in x a b) (hy : y_in y c d) : y_in x a (d - 1) := by
  have := Int32.lt_iff_toInt_lt.mp h
  exact ⟨hx.1, by have := hy.2; omega⟩
theorem z_lt2 {x y : Int32} {a b c d : Int} (h : x < y) (hx : y_in x a b) (hy : y_in y c d) : y_in y (a + 1) d := by
  have := Int32.lt_iff_toInt_lt.mp h
  exact ⟨by have := hx.1; omega, hy.2⟩
theorem z_nlt1 {x y : Int32} {a b c d : Int} (h : ¬ x < y) (hx : y_in x a b) (hy : y_in y c d) : y_in x c b := by
  have : ¬ x.toInt < y.toInt := fun q => h (Int32.lt_iff_toInt_lt.mpr q)
  exact ⟨by have := hy.1; omega, hx.2⟩
theorem z_nlt2 {x y : Int32} {a b c d : Int} (h : ¬ x < y) (hx : y_in x a b) (hy : y_in y c d) : y_in y c b := by
  have : ¬ x.toInt < y.toInt := fun q => h (Int32.lt_iff_toInt_lt.mpr q)
  exact ⟨hy.1, by have := hx.2; omega⟩
theorem z_le1 {x y : Int32} {a b c d : Int} (h : x ≤ y) (hx : y_in x a b) (hy : y_in y c d) : y_in x a d := by
  have := Int32.le_iff_toInt_le.mp h
  exact ⟨hx.1, by have := hy.2; omega⟩
theorem z_le2 {x y : Int32} {a b c d : Int} (h : x ≤ y) (hx : y_in x a b) (hy : y_in y c d) : y_in y a d := by
  have := Int32.le_iff_toInt_le.mp h
  exact ⟨by have := hx.1; omega, hy.2⟩
theorem z_nle1 {x y : Int32} {a b c d : Int} (h : ¬ x ≤ y) (hx : y_in x a b) (hy : y_in y c d) : y_in x (c + 1) b := by
  have : ¬ x.toInt ≤ y.toInt := fun q => h (Int32.le_iff_toInt_le.mpr q)
  exact ⟨by have := hy.1; omega, hx.2⟩
theorem z_nle2 {x y : Int32} {a b c d : Int} (h : ¬ x ≤ y) (hx : y_in x a b) (hy : y_in y c d) : y_in y c (b - 1) := by
  have : ¬ x.toInt ≤ y.toInt := fun q => h (Int32.le_iff_toInt_le.mpr q)
  exact ⟨hy.1, by have := hx.2; omega⟩
theorem z_eq1 {x y : Int32} {c d : Int} (h : x = y) (hy : y_in y c d) : y_in x c d := h ▸ hy
theorem z_ne1 {x y : Int32} {a b : Int} (h : ¬ x = y) (hx : y_in x a b) (hy : y.toInt = a) : y_in x (a + 1) b := by
  have : ¬ x.toInt = y.toInt := fun q => h (Int32.toInt_inj.mp q)
  exact ⟨by have := hx.1; omega, hx.2⟩
theorem z_ne2 {x y : Int32} {a b : Int} (h : ¬ x = y) (hx : y_in x a b) (hy : y.toInt = b) : y_in x a (b - 1) := by
  have : ¬ x.toInt = y.toInt := fun q => h (Int32.toInt_inj.mp q)
  exact ⟨hx.1, by have := hx.2; omega⟩
/-! measures of loops -/
theorem z_mu {x y k : Int32} {a b : Int} (B c : Int) (hx : y_in x a b) (e : y = x + k) (hk : k.toInt = c) (hc : 0 < c) (hb : b + c ≤ B) (hB : B ≤ 2147483647) : (B - y.toInt).toNat < (B - x.toInt).toNat := by
  have h1 := hx.2
  have h2 := (z_full x).1
  have e2 : y.toInt = x.toInt + c := by
    rw [e, Int32.toInt_add, hk]
    exact z_bmod (by omega) (by omega)
  omega
theorem z_md {x y k : Int32} {a b : Int} (B c : Int) (hx : y_in x a b) (e : y = x + k) (hk : k.toInt = -c) (hc : 0 < c) (hb : B ≤ a - c) (hB : -2147483648 ≤ B) : (y.toInt - B).toNat < (x.toInt - B).toNat := by
  have h1 := hx.1
  have h2 := (z_full x).2
  have e2 : y.toInt = x.toInt + -c := by
    rw [e, Int32.toInt_add, hk]
    exact z_bmod (by omega) (by omega)
  omega
theorem z_deadL {x y : Int32} {a b c d : Int} (hx : y_in x a b) (hy : y_in y c d) (h : d ≤ a) : ¬ x < y := fun q => by
  have := Int32.lt_iff_toInt_lt.mp q
  have := hx.1; have := hy.2; omega
theorem z_deadLn {x y : Int32} {a b c d : Int} (hx : y_in x a b) (hy : y_in y c d) (h : b < c) : x < y := Int32.lt_iff_toInt_lt.mpr (by have := hx.2; have := hy.1; omega)
theorem z_deadE {x y : Int32} {a b c d : Int} (hx : y_in x a b) (hy : y_in y c d) (h : d < a) : ¬ x ≤ y := fun q => by
  have := Int32.le_iff_toInt_le.mp q
  have := hx.1; have := hy.2; omega
theorem z_deadEn {x y : Int32} {a b c d : Int} (hx : y_in x a b) (hy : y_in y c d) (h : b ≤ c) : x ≤ y := Int32.le_iff_toInt_le.mpr (by have := hx.2; have := hy.1; omega)
theorem z_deadQ {x y : Int32} {a b c d : Int} (hx : y_in x a b) (hy : y_in y c d) (h : b < c ∨ d < a) : ¬ x = y := fun q => by
  subst q
  have := hx.1; have := hx.2; have := hy.1; have := hy.2; omega
theorem z_deadQn {x y : Int32} {a b c d : Int} (hx : y_in x a b) (hy : y_in y c d) (h : a = b ∧ b = c ∧ c = d) : x = y := Int32.toInt_inj.mp (by
  have := hx.1; have := hx.2; have := hy.1; have := hy.2; omega)
theorem z_8n {x : Int32} (h : y_in x 1 8) : ¬ (8 : Int64) * x.toInt64 = 0 := by
  obtain ⟨n, hn, rfl⟩ := nI_of (x := x) (fun h' => by
    have := Int32.lt_iff_toInt_lt.mp h'
    rw [Int32.toInt_zero] at this
    have := h.1
    omega)
  have h1 := h.1; have h2 := h.2
  rw [nI_toInt hn] at h1 h2
  rw [nI_l hn, show (8 : Int64) = lN 8 from rfl, show (0 : Int64) = lN 0 from rfl, lN_mul, pk_lEQ (by omega) (by decide)]
  omega
theorem t_f_Ma_min {a b c d e f : Int} (x0 x1 : Int32) (q : z_Sg) (h0 : y_in x0 a b) (h1 : y_in x1 c d) (he : e ≤ a ∧ e ≤ c) (hf : b ≤ f ∨ d ≤ f) : z_ok (f_Ma_min x0 x1 q) (fun o : Int32 => y_in o e f) := by
  unfold f_Ma_min k_Ma_min_10
  refine z_ok_i (fun c => ?_) (fun c => ?_)
  · refine z_ok_s ?_
    have := Int32.lt_iff_toInt_lt.mp c
    have := h1.1; have := h1.2; have := h0.2
    exact ⟨by omega, by omega⟩
  · refine z_ok_s ?_
    have : ¬ x1.toInt < x0.toInt := fun q => c (Int32.lt_iff_toInt_lt.mpr q)
    have := h0.1; have := h1.2; have := h0.2
    exact ⟨by omega, by omega⟩
