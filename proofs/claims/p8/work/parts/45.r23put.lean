def bw (B : Int64 → Int32) (at_ : Nat → Int64) (by_ : Nat → Int32) : Nat → Int64 → Int32
  | 0, y => B y
  | j + 1, y => if y = at_ j ∧ ¬ (at_ j < 0 ∨ ¬ at_ j < 32768) then (by_ j &&& 255) else bw B at_ by_ j y
theorem bw_congr {B B' : Int64 → Int32} {a a' : Nat → Int64} {b b' : Nat → Int32} (hB : ∀ y, B y = B' y) : ∀ {n : Nat}, (∀ j, j < n → a j = a' j ∧ (b j &&& 255) = (b' j &&& 255)) → ∀ y, bw B a b n y = bw B' a' b' n y
  | 0, _, y => hB y
  | n + 1, h, y => by
    show (if y = a n ∧ _ then _ else _) = (if y = a' n ∧ _ then _ else _)
    rw [(h n (by omega)).1, (h n (by omega)).2, bw_congr hB (n := n) (fun j hj => h j (by omega)) y]
theorem M_held {m : z_Sg} {n : Nat} (hn : n ≤ 8) : f_Mo_held (nI n) m = some (asm (fun i => mB (z_gN m 0) (z_gM m 3 i)) n) := by
  unfold f_Mo_held k_Mo_held_5
  obtain ⟨b, h1, h2⟩ := z_lo_ok (F := fun ih5 (a : Int32 × Int64 × Int32) => kb_Mo_held_5 ih5 a.1 a.2.1 a.2.2 m) (fun a => a.1 = nI n ∧ ∃ i, i ≤ n ∧ a.2.2 = nI i ∧ a.2.1 = asm (fun i => mB (z_gN m 0) (z_gM m 3 i)) i) (fun a => 8 - a.2.2.toNatClampNeg) (fun v => v = asm (fun i => mB (z_gN m 0) (z_gM m 3 i)) n) (by
    rintro ih ⟨a1, a2, a3⟩ ⟨e0, i, hi, e2, e1⟩ hih
    dsimp only at e0 e1 e2 hih ⊢
    subst e0 e1 e2
    unfold kb_Mo_held_5
    have hle : nI n ≤ nI i ↔ n ≤ i := nI_leI (by omega) (by omega)
    by_cases hin : n ≤ i
    · have : i = n := by omega
      subst this
      rw [if_pos (hle.mpr hin)]
      exact ⟨_, rfl, rfl⟩
    · have hb : ¬ z_bad (nI i) 8 := vp_in_nI (by omega) (by decide)
      rw [if_neg (fun x => hin (hle.mp x)), if_neg hb, M_byteAt, z_clp (by omega), po_bs2, po_nm2, po_nm2, nI_S]
      refine hih _ ⟨rfl, i + 1, by omega, rfl, rfl⟩ ?_
      show 8 - (nI (i + 1)).toNatClampNeg < 8 - (nI i).toNatClampNeg
      rw [z_clp (by omega), z_clp (by omega)]
      omega) 2000 (nI n, 0, 0) ⟨rfl, 0, by omega, rfl, rfl⟩ (by show 8 - (0 : Int32).toNatClampNeg < 2000; decide)
  rw [h1, h2]
theorem M_hold {m : z_Sg} {n : Nat} (hn : n ≤ 8) (ha : z_gI m 4 = -1) (hw : z_gI m 5 = 0) (v : Int64) : ∃ m', f_Mo_hold v (nI n) m = some m' ∧ fr [] [5] [2] [3] m m' ∧ z_gI m' 5 = nI n ∧ ∀ j, j < n → z_gM m' 2 j = z_gM m 3 j ∧ z_gN m' 3 j = ((z_lushr v (nI (8 * j))) &&& 255).toInt32 := by
  unfold f_Mo_hold k_Mo_hold_3
  obtain ⟨b, h1, h2⟩ := z_lo_ok (F := fun ih3 (a : Int64 × Int32 × Int32 × z_Sg) => kb_Mo_hold_3 ih3 a.1 a.2.1 a.2.2.1 a.2.2.2) (fun a => a.1 = v ∧ a.2.1 = nI n ∧ ∃ i, i ≤ n ∧ a.2.2.1 = nI i ∧ fr [] [5] [2] [3] m a.2.2.2 ∧ z_gI a.2.2.2 5 = nI i ∧ ∀ j, j < i → z_gM a.2.2.2 2 j = z_gM m 3 j ∧ z_gN a.2.2.2 3 j = ((z_lushr v (nI (8 * j))) &&& 255).toInt32) (fun a => 8 - a.2.2.1.toNatClampNeg) (fun m' => fr [] [5] [2] [3] m m' ∧ z_gI m' 5 = nI n ∧ ∀ j, j < n → z_gM m' 2 j = z_gM m 3 j ∧ z_gN m' 3 j = ((z_lushr v (nI (8 * j))) &&& 255).toInt32) (by
    rintro ih ⟨a1, a2, a3, a4⟩ ⟨e0, e1, i, hi, e2, hf, h5, hj⟩ hih
    dsimp only at e0 e1 e2 hf h5 hj hih ⊢
    subst e0 e1 e2
    unfold kb_Mo_hold_3 k_Mo_hold_70
    have hle : nI n ≤ nI i ↔ n ≤ i := nI_leI (by omega) (by omega)
    by_cases hin : n ≤ i
    · have : i = n := by omega
      subst this
      rw [if_pos (hle.mpr hin)]
      exact ⟨_, rfl, hf, h5, hj⟩
    · have hb : ¬ z_bad (nI i) 8 := vp_in_nI (by omega) (by decide)
      have hb16 : ¬ z_bad (nI i) 16 := vp_in_nI (by omega) (by decide)
      have ha4 : z_gI a4 4 = -1 := by rw [fr_I hf 4 (by decide)]; exact ha
      rw [if_neg (fun x => hin (hle.mp x)), if_pos ha4, if_neg hb, h5, if_neg hb16, po_nm2]
      have e5 : z_gI (z_sM a4 2 (nI i).toNatClampNeg (z_gM a4 3 (nI i).toNatClampNeg)) 5 = nI i := h5
      rw [e5, if_neg hb16, po_nm2, po_nm2, po_nm2, z_clp (show i < 2 ^ 30 by omega), z_8k i (by omega), nI_S]
      have e6 : z_gI (z_sN (z_sM a4 2 i (z_gM a4 3 i)) 3 i ((z_lushr a1 (nI (8 * i)) &&& 255).toInt32)) 5 + 1 = nI (i + 1) := by
        show z_gI a4 5 + 1 = _
        rw [h5, nI_S]
      rw [e6]
      refine hih _ ⟨rfl, rfl, i + 1, by omega, rfl, ?_, rfl, fun j hji => ?_⟩ ?_
      · exact fr_sI (fr_sN (fr_sM hf (by decide)) (by decide)) (by decide)
      · show (if j = i then z_gM a4 3 i else z_gM a4 2 j) = _ ∧ (if j = i then _ else z_gN a4 3 j) = _
        by_cases hji2 : j = i
        · subst hji2
          rw [if_pos rfl, if_pos rfl, fr_M hf 3 (by decide)]
          exact ⟨rfl, rfl⟩
        · rw [if_neg hji2, if_neg hji2]
          exact hj j (by omega)
      · show 8 - (nI (i + 1)).toNatClampNeg < 8 - (nI i).toNatClampNeg
        rw [z_clp (by omega), z_clp (by omega)]
        omega) 2000 (v, nI n, 0, m) ⟨rfl, rfl, 0, by omega, rfl, fr_0, hw, fun j hj => absurd hj (by omega)⟩ (by show 8 - (0 : Int32).toNatClampNeg < 2000; decide)
  exact ⟨b, h1, h2⟩
theorem K_value_7 {k : z_Sg} {n : Nat} (hn : n ≤ 8) (hl : z_gI k 16 = nI n) : f_Sp_value_7 k = some (asm (fun i => kB (z_gM k 1) (z_gM k 2 i)) n) := by
  unfold f_Sp_value_7 k_Sp_value_7_4
  obtain ⟨b, h1, h2⟩ := z_lo_ok (F := fun ih4 (a : Int64 × Int32) => kb_Sp_value_7_4 ih4 a.1 a.2 k) (fun a => ∃ i, i ≤ n ∧ a.2 = nI i ∧ a.1 = asm (fun i => kB (z_gM k 1) (z_gM k 2 i)) i) (fun a => 8 - a.2.toNatClampNeg) (fun v => v = asm (fun i => kB (z_gM k 1) (z_gM k 2 i)) n) (by
    rintro ih ⟨a1, a2⟩ ⟨i, hi, e2, e1⟩ hih
    dsimp only at e1 e2 hih ⊢
    subst e1 e2
    unfold kb_Sp_value_7_4
    rw [hl]
    have hle : nI n ≤ nI i ↔ n ≤ i := nI_leI (by omega) (by omega)
    by_cases hin : n ≤ i
    · have : i = n := by omega
      subst this
      rw [if_pos (hle.mpr hin)]
      exact ⟨_, rfl, rfl⟩
    · have hb : ¬ z_bad (nI i) 8 := vp_in_nI (by omega) (by decide)
      rw [if_neg (fun x => hin (hle.mp x)), if_neg hb, K_byteAt, z_clp (by omega), po_bs2, po_nm2, po_nm2, nI_S]
      refine hih _ ⟨i + 1, by omega, rfl, rfl⟩ ?_
      show 8 - (nI (i + 1)).toNatClampNeg < 8 - (nI i).toNatClampNeg
      rw [z_clp (by omega), z_clp (by omega)]
      omega) 2000 (0, 0) ⟨0, by omega, rfl, rfl⟩ (by show 8 - (0 : Int32).toNatClampNeg < 2000; decide)
  rw [h1, h2]
theorem K_put_7 {k : z_Sg} {n : Nat} (hn : n ≤ 8) (hl : z_gI k 16 = nI n) (v : Int64) : ∃ k', f_Sp_put_7 v k = some k' ∧ fr [] [] [1] [] k k' ∧ ∀ y, kB (z_gM k' 1) y = bw (kB (z_gM k 1)) (z_gM k 2) (fun i => (z_lushr v (nI (8 * i))).toInt32) n y := by
  unfold f_Sp_put_7 k_Sp_put_7_2
  obtain ⟨b, h1, h2⟩ := z_lo_ok (F := fun ih2 (a : Int64 × Int32 × z_Sg) => kb_Sp_put_7_2 ih2 a.1 a.2.1 a.2.2) (fun a => a.1 = v ∧ ∃ i, i ≤ n ∧ a.2.1 = nI i ∧ fr [] [] [1] [] k a.2.2 ∧ ∀ y, kB (z_gM a.2.2 1) y = bw (kB (z_gM k 1)) (z_gM k 2) (fun i => (z_lushr v (nI (8 * i))).toInt32) i y) (fun a => 8 - a.2.1.toNatClampNeg) (fun k' => fr [] [] [1] [] k k' ∧ ∀ y, kB (z_gM k' 1) y = bw (kB (z_gM k 1)) (z_gM k 2) (fun i => (z_lushr v (nI (8 * i))).toInt32) n y) (by
    rintro ih ⟨a1, a2, a3⟩ ⟨e0, i, hi, e2, hf, hb⟩ hih
    dsimp only at e0 e2 hf hb hih ⊢
    subst e0 e2
    unfold kb_Sp_put_7_2
    rw [fr_I hf 16 (by decide), hl]
    have hle : nI n ≤ nI i ↔ n ≤ i := nI_leI (by omega) (by omega)
    by_cases hin : n ≤ i
    · have : i = n := by omega
      subst this
      rw [if_pos (hle.mpr hin)]
      exact ⟨_, rfl, hf, hb⟩
    · have hb8 : ¬ z_bad (nI i) 8 := vp_in_nI (by omega) (by decide)
      rw [if_neg (fun x => hin (hle.mp x)), if_neg hb8, z_clp (show i < 2 ^ 30 by omega), z_8k i (by omega), fr_M hf 2 (by decide)]
      obtain ⟨w, w1, ⟨wi, wy, w2⟩, w3⟩ := K_putByte (z_gM k 2 i) (z_lushr a1 (nI (8 * i))) a3
      rw [w1, po_bs2, po_nm2, nI_S]
      refine hih _ ⟨rfl, i + 1, by omega, rfl, ?_, fun y => ?_⟩ ?_
      · rcases w2 with rfl | rfl
        · exact hf
        · exact fr_sM hf (by decide)
      · show kB (z_gM w 1) y = (if y = z_gM k 2 i ∧ _ then _ else _)
        rw [w3 y, hb y]
      · show 8 - (nI (i + 1)).toNatClampNeg < 8 - (nI i).toNatClampNeg
        rw [z_clp (by omega), z_clp (by omega)]
        omega) 2000 (v, 0, k) ⟨rfl, 0, by omega, rfl, fr_0, fun y => rfl⟩ (by show 8 - (0 : Int32).toNatClampNeg < 2000; decide)
  exact ⟨b, h1, h2⟩
theorem K_value_12 {k : z_Sg} {n : Nat} (hn : n ≤ 8) (hl : z_gI k 17 = nI n) : f_Sp_value_12 k = some (asm (fun i => kB (z_gM k 1) (z_gM k 3 i)) n) := by
  unfold f_Sp_value_12 k_Sp_value_12_4
  obtain ⟨b, h1, h2⟩ := z_lo_ok (F := fun ih4 (a : Int64 × Int32) => kb_Sp_value_12_4 ih4 a.1 a.2 k) (fun a => ∃ i, i ≤ n ∧ a.2 = nI i ∧ a.1 = asm (fun i => kB (z_gM k 1) (z_gM k 3 i)) i) (fun a => 8 - a.2.toNatClampNeg) (fun v => v = asm (fun i => kB (z_gM k 1) (z_gM k 3 i)) n) (by
    rintro ih ⟨a1, a2⟩ ⟨i, hi, e2, e1⟩ hih
    dsimp only at e1 e2 hih ⊢
    subst e1 e2
    unfold kb_Sp_value_12_4
    rw [hl]
    have hle : nI n ≤ nI i ↔ n ≤ i := nI_leI (by omega) (by omega)
    by_cases hin : n ≤ i
    · have : i = n := by omega
      subst this
      rw [if_pos (hle.mpr hin)]
      exact ⟨_, rfl, rfl⟩
    · have hb : ¬ z_bad (nI i) 8 := vp_in_nI (by omega) (by decide)
      rw [if_neg (fun x => hin (hle.mp x)), if_neg hb, K_byteAt, z_clp (by omega), po_bs2, po_nm2, po_nm2, nI_S]
      refine hih _ ⟨i + 1, by omega, rfl, rfl⟩ ?_
      show 8 - (nI (i + 1)).toNatClampNeg < 8 - (nI i).toNatClampNeg
      rw [z_clp (by omega), z_clp (by omega)]
      omega) 2000 (0, 0) ⟨0, by omega, rfl, rfl⟩ (by show 8 - (0 : Int32).toNatClampNeg < 2000; decide)
  rw [h1, h2]
theorem K_put_12 {k : z_Sg} {n : Nat} (hn : n ≤ 8) (hl : z_gI k 17 = nI n) (v : Int64) : ∃ k', f_Sp_put_12 v k = some k' ∧ fr [] [] [1] [] k k' ∧ ∀ y, kB (z_gM k' 1) y = bw (kB (z_gM k 1)) (z_gM k 3) (fun i => (z_lushr v (nI (8 * i))).toInt32) n y := by
  unfold f_Sp_put_12 k_Sp_put_12_2
  obtain ⟨b, h1, h2⟩ := z_lo_ok (F := fun ih2 (a : Int64 × Int32 × z_Sg) => kb_Sp_put_12_2 ih2 a.1 a.2.1 a.2.2) (fun a => a.1 = v ∧ ∃ i, i ≤ n ∧ a.2.1 = nI i ∧ fr [] [] [1] [] k a.2.2 ∧ ∀ y, kB (z_gM a.2.2 1) y = bw (kB (z_gM k 1)) (z_gM k 3) (fun i => (z_lushr v (nI (8 * i))).toInt32) i y) (fun a => 8 - a.2.1.toNatClampNeg) (fun k' => fr [] [] [1] [] k k' ∧ ∀ y, kB (z_gM k' 1) y = bw (kB (z_gM k 1)) (z_gM k 3) (fun i => (z_lushr v (nI (8 * i))).toInt32) n y) (by
    rintro ih ⟨a1, a2, a3⟩ ⟨e0, i, hi, e2, hf, hb⟩ hih
    dsimp only at e0 e2 hf hb hih ⊢
    subst e0 e2
    unfold kb_Sp_put_12_2
    rw [fr_I hf 17 (by decide), hl]
    have hle : nI n ≤ nI i ↔ n ≤ i := nI_leI (by omega) (by omega)
    by_cases hin : n ≤ i
    · have : i = n := by omega
      subst this
      rw [if_pos (hle.mpr hin)]
      exact ⟨_, rfl, hf, hb⟩
    · have hb8 : ¬ z_bad (nI i) 8 := vp_in_nI (by omega) (by decide)
      rw [if_neg (fun x => hin (hle.mp x)), if_neg hb8, z_clp (show i < 2 ^ 30 by omega), z_8k i (by omega), fr_M hf 3 (by decide)]
      obtain ⟨w, w1, ⟨wi, wy, w2⟩, w3⟩ := K_putByte (z_gM k 3 i) (z_lushr a1 (nI (8 * i))) a3
      rw [w1, po_bs2, po_nm2, nI_S]
      refine hih _ ⟨rfl, i + 1, by omega, rfl, ?_, fun y => ?_⟩ ?_
      · rcases w2 with rfl | rfl
        · exact hf
        · exact fr_sM hf (by decide)
      · show kB (z_gM w 1) y = (if y = z_gM k 3 i ∧ _ then _ else _)
        rw [w3 y, hb y]
      · show 8 - (nI (i + 1)).toNatClampNeg < 8 - (nI i).toNatClampNeg
        rw [z_clp (by omega), z_clp (by omega)]
        omega) 2000 (v, 0, k) ⟨rfl, 0, by omega, rfl, fr_0, fun y => rfl⟩ (by show 8 - (0 : Int32).toNatClampNeg < 2000; decide)
  exact ⟨b, h1, h2⟩
theorem K_value_15 {k : z_Sg} {n : Nat} (hn : n ≤ 8) (hl : z_gI k 18 = nI n) : f_Sp_value_15 k = some (asm (fun i => kB (z_gM k 1) (z_gM k 4 i)) n) := by
  unfold f_Sp_value_15 k_Sp_value_15_4
  obtain ⟨b, h1, h2⟩ := z_lo_ok (F := fun ih4 (a : Int64 × Int32) => kb_Sp_value_15_4 ih4 a.1 a.2 k) (fun a => ∃ i, i ≤ n ∧ a.2 = nI i ∧ a.1 = asm (fun i => kB (z_gM k 1) (z_gM k 4 i)) i) (fun a => 8 - a.2.toNatClampNeg) (fun v => v = asm (fun i => kB (z_gM k 1) (z_gM k 4 i)) n) (by
    rintro ih ⟨a1, a2⟩ ⟨i, hi, e2, e1⟩ hih
    dsimp only at e1 e2 hih ⊢
    subst e1 e2
    unfold kb_Sp_value_15_4
    rw [hl]
    have hle : nI n ≤ nI i ↔ n ≤ i := nI_leI (by omega) (by omega)
    by_cases hin : n ≤ i
    · have : i = n := by omega
      subst this
      rw [if_pos (hle.mpr hin)]
      exact ⟨_, rfl, rfl⟩
    · have hb : ¬ z_bad (nI i) 8 := vp_in_nI (by omega) (by decide)
      rw [if_neg (fun x => hin (hle.mp x)), if_neg hb, K_byteAt, z_clp (by omega), po_bs2, po_nm2, po_nm2, nI_S]
      refine hih _ ⟨i + 1, by omega, rfl, rfl⟩ ?_
      show 8 - (nI (i + 1)).toNatClampNeg < 8 - (nI i).toNatClampNeg
      rw [z_clp (by omega), z_clp (by omega)]
      omega) 2000 (0, 0) ⟨0, by omega, rfl, rfl⟩ (by show 8 - (0 : Int32).toNatClampNeg < 2000; decide)
  rw [h1, h2]
theorem K_value_17 {k : z_Sg} {n : Nat} (hn : n ≤ 8) (hl : z_gI k 19 = nI n) : f_Sp_value_17 k = some (asm (fun i => kB (z_gM k 1) (z_gM k 5 i)) n) := by
  unfold f_Sp_value_17 k_Sp_value_17_4
  obtain ⟨b, h1, h2⟩ := z_lo_ok (F := fun ih4 (a : Int64 × Int32) => kb_Sp_value_17_4 ih4 a.1 a.2 k) (fun a => ∃ i, i ≤ n ∧ a.2 = nI i ∧ a.1 = asm (fun i => kB (z_gM k 1) (z_gM k 5 i)) i) (fun a => 8 - a.2.toNatClampNeg) (fun v => v = asm (fun i => kB (z_gM k 1) (z_gM k 5 i)) n) (by
    rintro ih ⟨a1, a2⟩ ⟨i, hi, e2, e1⟩ hih
    dsimp only at e1 e2 hih ⊢
    subst e1 e2
    unfold kb_Sp_value_17_4
    rw [hl]
    have hle : nI n ≤ nI i ↔ n ≤ i := nI_leI (by omega) (by omega)
    by_cases hin : n ≤ i
    · have : i = n := by omega
      subst this
      rw [if_pos (hle.mpr hin)]
      exact ⟨_, rfl, rfl⟩
    · have hb : ¬ z_bad (nI i) 8 := vp_in_nI (by omega) (by decide)
      rw [if_neg (fun x => hin (hle.mp x)), if_neg hb, K_byteAt, z_clp (by omega), po_bs2, po_nm2, po_nm2, nI_S]
      refine hih _ ⟨i + 1, by omega, rfl, rfl⟩ ?_
      show 8 - (nI (i + 1)).toNatClampNeg < 8 - (nI i).toNatClampNeg
      rw [z_clp (by omega), z_clp (by omega)]
      omega) 2000 (0, 0) ⟨0, by omega, rfl, rfl⟩ (by show 8 - (0 : Int32).toNatClampNeg < 2000; decide)
  rw [h1, h2]
theorem K_put_17 {k : z_Sg} {n : Nat} (hn : n ≤ 8) (hl : z_gI k 19 = nI n) (v : Int64) : ∃ k', f_Sp_put_17 v k = some k' ∧ fr [] [] [1] [] k k' ∧ ∀ y, kB (z_gM k' 1) y = bw (kB (z_gM k 1)) (z_gM k 5) (fun i => (z_lushr v (nI (8 * i))).toInt32) n y := by
  unfold f_Sp_put_17 k_Sp_put_17_2
  obtain ⟨b, h1, h2⟩ := z_lo_ok (F := fun ih2 (a : Int64 × Int32 × z_Sg) => kb_Sp_put_17_2 ih2 a.1 a.2.1 a.2.2) (fun a => a.1 = v ∧ ∃ i, i ≤ n ∧ a.2.1 = nI i ∧ fr [] [] [1] [] k a.2.2 ∧ ∀ y, kB (z_gM a.2.2 1) y = bw (kB (z_gM k 1)) (z_gM k 5) (fun i => (z_lushr v (nI (8 * i))).toInt32) i y) (fun a => 8 - a.2.1.toNatClampNeg) (fun k' => fr [] [] [1] [] k k' ∧ ∀ y, kB (z_gM k' 1) y = bw (kB (z_gM k 1)) (z_gM k 5) (fun i => (z_lushr v (nI (8 * i))).toInt32) n y) (by
    rintro ih ⟨a1, a2, a3⟩ ⟨e0, i, hi, e2, hf, hb⟩ hih
    dsimp only at e0 e2 hf hb hih ⊢
    subst e0 e2
    unfold kb_Sp_put_17_2
    rw [fr_I hf 19 (by decide), hl]
    have hle : nI n ≤ nI i ↔ n ≤ i := nI_leI (by omega) (by omega)
    by_cases hin : n ≤ i
    · have : i = n := by omega
      subst this
      rw [if_pos (hle.mpr hin)]
      exact ⟨_, rfl, hf, hb⟩
    · have hb8 : ¬ z_bad (nI i) 8 := vp_in_nI (by omega) (by decide)
      rw [if_neg (fun x => hin (hle.mp x)), if_neg hb8, z_clp (show i < 2 ^ 30 by omega), z_8k i (by omega), fr_M hf 5 (by decide)]
      obtain ⟨w, w1, ⟨wi, wy, w2⟩, w3⟩ := K_putByte (z_gM k 5 i) (z_lushr a1 (nI (8 * i))) a3
      rw [w1, po_bs2, po_nm2, nI_S]
      refine hih _ ⟨rfl, i + 1, by omega, rfl, ?_, fun y => ?_⟩ ?_
      · rcases w2 with rfl | rfl
        · exact hf
        · exact fr_sM hf (by decide)
      · show kB (z_gM w 1) y = (if y = z_gM k 5 i ∧ _ then _ else _)
        rw [w3 y, hb y]
      · show 8 - (nI (i + 1)).toNatClampNeg < 8 - (nI i).toNatClampNeg
        rw [z_clp (by omega), z_clp (by omega)]
        omega) 2000 (v, 0, k) ⟨rfl, 0, by omega, rfl, fr_0, fun y => rfl⟩ (by show 8 - (0 : Int32).toNatClampNeg < 2000; decide)
  exact ⟨b, h1, h2⟩
