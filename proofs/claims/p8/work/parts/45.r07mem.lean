def kB (w : Nat → Int64) (x : Int64) : Int32 := if x < 0 then 0 else if x < 32768 then ((z_lushr (w ((z_lushr x 3).toInt32).toNatClampNeg) ((8 : Int32) * ((x &&& (7 : Int64)).toInt32))).toInt32) &&& 255 else 0
def mB (m : Nat → Int32) (x : Int64) : Int32 := if x < 0 then 0 else if x < 32768 then (m (x.toInt32).toNatClampNeg) &&& 255 else 0
theorem K_byteAt (x : Int64) (q : z_Sg) : f_Pa_byteAt x q = some (kB (z_gM q 1) x) := by
  unfold f_Pa_byteAt k_Pa_byteAt_14 kB
  by_cases h0 : x < 0
  · rw [if_pos h0, if_pos h0]
  · rw [if_neg h0, if_neg h0]
    by_cases h1 : x < 32768
    · rw [if_pos h1, if_pos h1]
      obtain ⟨n, hn, e, e3, hb, -, -⟩ := z_ix h0 h1
      show (if z_bad ((z_lushr x 3).toInt32) 4096 then none else _) = _
      rw [if_neg hb]
    · rw [if_neg h1, if_neg h1]
theorem M_byteAt (x : Int64) (q : z_Sg) : f_Mo_byteAt x q = some (mB (z_gN q 0) x) := by
  unfold f_Mo_byteAt k_Mo_byteAt_14 k_Mo_byteAt_29 mB
  by_cases h0 : x < 0
  · rw [if_pos h0, if_pos h0]
  · rw [if_neg h0, if_neg h0]
    by_cases h1 : x < 32768
    · rw [if_pos h1, if_pos h1]
      obtain ⟨n, hn, e, e3, hb, -, hb2⟩ := z_ix h0 h1
      rw [if_neg hb2]
    · rw [if_neg h1, if_neg h1]
def memR (w : Nat → Int64) (m : Nat → Int32) : Prop := ∀ x : Int64, kB w x = mB m x
theorem z_8k : ∀ k, k < 8 → (8 : Int32) * nI k = nI (8 * k) := by decide +kernel
theorem z_and7 {n : Nat} (hn : n < 32768) : ((lN n &&& (7 : Int64)).toInt32) = nI (n % 8) := by
  rw [show (7 : Int64) = lN (2 ^ 3 - 1) from rfl, wb_mask (by omega) (by decide), lN_i]
theorem kB_lt {w : Nat → Int64} {n : Nat} (hn : n < 32768) (b : Nat) : tI (kB w (lN n)) b = (decide (b < 8) && tb (w (n / 8)) (8 * (n % 8) + b)) := by
  unfold kB
  have h0 : ¬ lN n < 0 := by
    rw [show (0 : Int64) = lN 0 from rfl, pk_lLT (by omega) (by decide)]; omega
  have h1 : lN n < 32768 := by
    rw [show (32768 : Int64) = lN 32768 from rfl, pk_lLT (by omega) (by decide)]; omega
  obtain ⟨k, hk, e, e3, -, -, -⟩ := z_ix h0 h1
  have ek : k = n := by
    have h2 : lN k = lN n := e.symm
    rw [pk_lEQ (by omega) (by omega)] at h2
    exact h2
  subst ek
  rw [if_neg h0, if_pos h1, e3, z_clp (by omega), z_and7 hn, z_8k _ (by omega), tI_and, tI_l2i, tI_255, tb_ushr _ _ (by omega)]
  by_cases hb : b < 8
  · rw [decide_eq_true hb, decide_eq_true (show b < 32 by omega), Nat.add_comm b]; simp
  · rw [decide_eq_false hb]; simp
theorem kB_hi {w : Nat → Int64} {x : Int64} (h : x < 0 ∨ ¬ x < 32768) : kB w x = 0 := by
  unfold kB
  rcases h with h | h
  · rw [if_pos h]
  · by_cases h0 : x < 0
    · rw [if_pos h0]
    · rw [if_neg h0, if_neg h]
theorem mB_hi {m : Nat → Int32} {x : Int64} (h : x < 0 ∨ ¬ x < 32768) : mB m x = 0 := by
  unfold mB
  rcases h with h | h
  · rw [if_pos h]
  · by_cases h0 : x < 0
    · rw [if_pos h0]
    · rw [if_neg h0, if_neg h]
theorem z_inn {x : Int64} (h : ¬ (x < 0 ∨ ¬ x < 32768)) : ∃ n, n < 32768 ∧ x = lN n := by
  have h0 : ¬ x < 0 := fun c => h (Or.inl c)
  have h1 : x < 32768 := Classical.byContradiction fun c => h (Or.inr c)
  obtain ⟨n, hn, e, -⟩ := z_ix h0 h1
  exact ⟨n, hn, e⟩
theorem mB_lt {m : Nat → Int32} {n : Nat} (hn : n < 32768) : mB m (lN n) = m n &&& 255 := by
  unfold mB
  have h0 : ¬ lN n < 0 := by
    rw [show (0 : Int64) = lN 0 from rfl, pk_lLT (by omega) (by decide)]; omega
  have h1 : lN n < 32768 := by
    rw [show (32768 : Int64) = lN 32768 from rfl, pk_lLT (by omega) (by decide)]; omega
  rw [if_neg h0, if_pos h1, lN_i, z_clp (by omega)]
theorem K_putByte (x v : Int64) (q : z_Sg) : ∃ w, f_Pa_putByte x v q = some w ∧ (∃ i y, w = q ∨ w = z_sM q 1 i y) ∧ ∀ y, kB (z_gM w 1) y = if y = x ∧ ¬ (x < 0 ∨ ¬ x < 32768) then (v.toInt32 &&& 255) else kB (z_gM q 1) y := by
  by_cases hx : x < 0 ∨ ¬ x < 32768
  · refine ⟨q, ?_, ⟨0, 0, Or.inl rfl⟩, fun y => ?_⟩
    · unfold f_Pa_putByte k_Pa_putByte_14
      rcases hx with h | h
      · rw [if_pos h]
      · by_cases h0 : x < 0
        · rw [if_pos h0]
        · rw [if_neg h0, if_neg h]
    · rw [if_neg (fun h => h.2 hx)]
  · have h0 : ¬ x < 0 := fun c => hx (Or.inl c)
    have h1 : x < 32768 := Classical.byContradiction fun c => hx (Or.inr c)
    obtain ⟨n, hn, e, e3, hb, -, -⟩ := z_ix h0 h1
    have e7 : ((x &&& (7 : Int64)).toInt32) = nI (n % 8) := by rw [e]; exact z_and7 hn
    refine ⟨z_sM q 1 (n / 8) (((z_gM q 1 (n / 8)) &&& ((z_lshl (255 : Int64) (nI (8 * (n % 8)))) ^^^ (-1 : Int64))) ||| (z_lshl (v &&& (255 : Int64)) (nI (8 * (n % 8))))), ?_, ⟨_, _, Or.inr rfl⟩, fun y => ?_⟩
    · unfold f_Pa_putByte
      rw [if_neg h0, if_pos h1]
      show (if z_bad ((z_lushr x 3).toInt32) 4096 then none else if z_bad ((z_lushr x 3).toInt32) 4096 then none else some (z_sM q 1 ((z_lushr x 3).toInt32).toNatClampNeg (((z_gM q 1 ((z_lushr x 3).toInt32).toNatClampNeg) &&& ((z_lshl (255 : Int64) ((8 : Int32) * ((x &&& (7 : Int64)).toInt32))) ^^^ (-1 : Int64))) ||| (z_lshl (v &&& (255 : Int64)) ((8 : Int32) * ((x &&& (7 : Int64)).toInt32)))))) = _
      rw [if_neg hb, if_neg hb, e3, z_clp (by omega), e7, z_8k _ (by omega)]
    · by_cases hy : y < 0 ∨ ¬ y < 32768
      · rw [kB_hi hy, kB_hi hy, if_neg (show ¬ (y = x ∧ ¬ (x < 0 ∨ ¬ x < 32768)) from fun h => hx (h.1 ▸ hy))]
      · obtain ⟨j, hj, ej⟩ := z_inn hy
        have exy : (y = x) ↔ j = n := by rw [ej, e]; exact pk_lEQ (by omega) (by omega)
        have ew : ∀ k, z_gM (z_sM q 1 (n / 8) (((z_gM q 1 (n / 8)) &&& ((z_lshl (255 : Int64) (nI (8 * (n % 8)))) ^^^ (-1 : Int64))) ||| (z_lshl (v &&& (255 : Int64)) (nI (8 * (n % 8)))))) 1 k = if k = n / 8 then (((z_gM q 1 (n / 8)) &&& ((z_lshl (255 : Int64) (nI (8 * (n % 8)))) ^^^ (-1 : Int64))) ||| (z_lshl (v &&& (255 : Int64)) (nI (8 * (n % 8))))) else z_gM q 1 k := fun k => rfl
        refine tI_ext (fun b hb32 => ?_)
        rw [ej, kB_lt hj, ew]
        by_cases hjn : j = n
        · subst hjn
          rw [if_pos rfl, if_pos ⟨e.symm, hx⟩, tb_or, tb_and, tb_xor, tb_m1, tb_shl _ _ (by omega), tb_shl _ _ (by omega), tb_and, tb_255, tI_and, tI_l2i, tI_255]
          by_cases hb8 : b < 8
          · rw [decide_eq_true hb8, decide_eq_true (show 8 * (j % 8) + b < 64 by omega), decide_eq_false (show ¬ 8 * (j % 8) + b < 8 * (j % 8) by omega), show 8 * (j % 8) + b - 8 * (j % 8) = b by omega, decide_eq_true hb8, decide_eq_true hb32]
            simp
          · rw [decide_eq_false hb8]; simp
        · rw [if_neg (show ¬ (lN j = x ∧ ¬ (x < 0 ∨ ¬ x < 32768)) from fun h => hjn (exy.mp (ej.trans h.1))), kB_lt hj]
          by_cases hw : j / 8 = n / 8
          · rw [if_pos hw, tb_or, tb_and, tb_xor, tb_m1, tb_shl _ _ (by omega), tb_shl _ _ (by omega), tb_and, tb_255, hw]
            by_cases hb8 : b < 8
            · have hd : ¬ j % 8 = n % 8 := fun h => hjn (by omega)
              rw [decide_eq_true hb8, decide_eq_true (show 8 * (j % 8) + b < 64 by omega)]
              by_cases hlt : j % 8 < n % 8
              · rw [decide_eq_true (show 8 * (j % 8) + b < 8 * (n % 8) by omega)]; simp
              · rw [decide_eq_false (show ¬ 8 * (j % 8) + b < 8 * (n % 8) by omega), decide_eq_false (show ¬ 8 * (j % 8) + b - 8 * (n % 8) < 8 by omega)]; simp
            · rw [decide_eq_false hb8]; simp
          · rw [if_neg hw]
def asm (f : Nat → Int32) : Nat → Int64
  | 0 => 0
  | k + 1 => asm f k ||| z_lshl ((f k).toInt64) ((8 : Int32) * nI k)
theorem asm_congr {f g : Nat → Int32} : ∀ {n : Nat}, (∀ k, k < n → f k = g k) → asm f n = asm g n
  | 0, _ => rfl
  | n + 1, h => by
    show asm f n ||| _ = asm g n ||| _
    rw [asm_congr (n := n) (fun k hk => h k (by omega)), h n (by omega)]
theorem tb_asm {f : Nat → Int32} (hf : ∀ k b, 8 ≤ b → tI (f k) b = false) : ∀ {n : Nat}, n ≤ 8 → ∀ i, tb (asm f n) i = (decide (i < 8 * n) && tI (f (i / 8)) (i % 8))
  | 0, _, i => by show tb 0 i = _; rw [tb_0, decide_eq_false (by omega)]; rfl
  | n + 1, hn, i => by
    show tb (asm f n ||| z_lshl ((f n).toInt64) ((8 : Int32) * nI n)) i = _
    rw [tb_or, tb_asm hf (n := n) (by omega) i, z_8k n (by omega), tb_shl _ _ (by omega), tb_i2l]
    by_cases h1 : i < 8 * n
    · rw [decide_eq_true h1, decide_eq_true (show i < 8 * (n + 1) by omega)]; simp
    · rw [decide_eq_false h1]
      by_cases h2 : i < 8 * (n + 1)
      · have e1 : i / 8 = n := by omega
        have e2 : i - 8 * n = i % 8 := by omega
        rw [decide_eq_true h2, e1, e2, decide_eq_true (show i < 64 by omega), if_pos (show i % 8 < 32 by omega), decide_eq_true (show i % 8 < 64 by omega)]; simp
      · rw [decide_eq_false h2]
        by_cases h3 : i - 8 * n < 32
        · rw [if_pos h3, hf n _ (by omega)]; simp
        · rw [if_neg h3, hf n 31 (by omega)]; simp
theorem kB_8 (w : Nat → Int64) (x : Int64) (b : Nat) (hb : 8 ≤ b) : tI (kB w x) b = false := by
  by_cases h : x < 0 ∨ ¬ x < 32768
  · rw [kB_hi h, tI_0]
  · obtain ⟨n, hn, e⟩ := z_inn h
    rw [e, kB_lt hn, decide_eq_false (by omega)]; rfl
theorem nI_S (k : Nat) : nI k + 1 = nI (k + 1) := nI_1 k
theorem M_eight (x : Int64) (q : z_Sg) : f_Mo_eight x q = some (asm (fun k => mB (z_gN q 0) (x + (nI k).toInt64)) 8) := by
  unfold f_Mo_eight k_Mo_eight_5
  have := z_lo_ok (F := fun ih5 (a : Int64 × Int64 × Int32) => kb_Mo_eight_5 ih5 a.1 a.2.1 a.2.2 q) (fun a => a.1 = x ∧ ∃ k, k ≤ 8 ∧ a.2.2 = nI k ∧ a.2.1 = asm (fun k => mB (z_gN q 0) (x + (nI k).toInt64)) k) (fun a => 8 - a.2.2.toNatClampNeg) (fun v => v = asm (fun k => mB (z_gN q 0) (x + (nI k).toInt64)) 8) ?_ 2000 (x, 0, 0) ⟨rfl, 0, by omega, rfl, rfl⟩ (by show 8 - (0 : Int32).toNatClampNeg < 2000; decide)
  · obtain ⟨b, h1, h2⟩ := this
    rw [h1, h2]
  · rintro ih ⟨a1, a2, a3⟩ ⟨rfl, k, hk, e3, e2⟩ hih
    dsimp only at e3 e2 hih ⊢
    subst e3 e2
    unfold kb_Mo_eight_5
    by_cases h8 : 8 ≤ k
    · have : k = 8 := by omega
      subst this
      rw [if_pos (by decide)]
      exact ⟨_, rfl, rfl⟩
    · rw [if_neg (fun h => h8 ((z_i8 (by omega)).mp h)), M_byteAt]
      show ∃ b, ih (_, _, nI k + 1) = some b ∧ _
      rw [nI_S]
      refine hih _ ⟨rfl, k + 1, by omega, rfl, rfl⟩ ?_
      show 8 - (nI (k + 1)).toNatClampNeg < 8 - (nI k).toNatClampNeg
      rw [z_clp (by omega), z_clp (by omega)]
      omega
theorem asm_0 {f : Nat → Int32} (h : ∀ k, f k = 0) (n : Nat) (hn : n ≤ 8) : asm f n = 0 := by
  refine tb_ext (fun i _ => ?_)
  rw [tb_asm (fun k b _ => by rw [h, tI_0]) hn, h, tI_0, tb_0]; simp
theorem eight_word {w : Nat → Int64} {m : Nat → Int32} (hm : memR w m) {a : Nat} (h8 : a % 8 = 0) (ha : a < 2 ^ 60) : asm (fun k => mB m (lN a + (nI k).toInt64)) 8 = if a < 32768 then w (a / 8) else 0 := by
  by_cases h : a < 32768
  · rw [if_pos h]
    have e : asm (fun k => mB m (lN a + (nI k).toInt64)) 8 = asm (fun k => kB w (lN (a + k))) 8 := by
      refine asm_congr (fun k hk => ?_)
      show mB m (lN a + (nI k).toInt64) = kB w (lN (a + k))
      rw [← hm, nI_l (by omega), lN_add]
    rw [e]
    refine tb_ext (fun i hi => ?_)
    rw [tb_asm (fun k b hb => kB_8 _ _ _ hb) (by omega), decide_eq_true (show i < 8 * 8 by omega), kB_lt (by omega), decide_eq_true (show i % 8 < 8 by omega), show (a + i / 8) / 8 = a / 8 by omega, show 8 * ((a + i / 8) % 8) + i % 8 = i by omega]
    rfl
  · rw [if_neg h]
    have e : asm (fun k => mB m (lN a + (nI k).toInt64)) 8 = asm (fun _ => 0) 8 := by
      refine asm_congr (fun k hk => mB_hi (Or.inr ?_))
      rw [nI_l (by omega), lN_add, show (32768 : Int64) = lN 32768 from rfl, pk_lLT (by omega) (by decide)]
      omega
    rw [e]
    exact asm_0 (fun _ => rfl) 8 (by omega)
