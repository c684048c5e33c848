theorem ex_one {β : Type} {k0 k : z_Sg} (hF : f_Fl_execute k = some (-2, k)) (hS : f_Sr_execute k = some (-2, k)) (h2 : ¬ (256 : Int32) ≤ z_gI k 11) {y : Option (Sum z_Dd β)} {Q : z_Sg → β → Prop} (ha : z_r k0 ((f_On_execute k).bind S3) y Q) : z_r k0 (k_Co_step_21 (-1) k) y Q := by
  unfold k_Co_step_21
  rw [if_pos rfl, hF, po_bs2, if_pos rfl, hS, po_bs2]
  unfold k_Co_step_50
  rw [if_pos rfl, if_neg h2]
  exact ha
theorem ex_two {β : Type} {k0 k : z_Sg} (hF : f_Fl_execute k = some (-2, k)) (hS : f_Sr_execute k = some (-2, k)) (h2 : (256 : Int32) ≤ z_gI k 11) {y : Option (Sum z_Dd β)} {Q : z_Sg → β → Prop} (ha : z_r k0 ((f_Tw_execute k).bind S3) y Q) : z_r k0 (k_Co_step_21 (-1) k) y Q := by
  unfold k_Co_step_21
  rw [if_pos rfl, hF, po_bs2, if_pos rfl, hS, po_bs2]
  unfold k_Co_step_50
  rw [if_pos rfl, if_pos h2]
  exact ha
theorem ex_fl {β : Type} {k0 k : z_Sg} {x : Option (Int32 × z_Sg)} (hF : f_Fl_execute k = x) (hne : ∀ o, x = some o → ¬ o.1 = -2) {y : Option (Sum z_Dd β)} {Q : z_Sg → β → Prop} (ha : z_r k0 (x.bind S3) y Q) : z_r k0 (k_Co_step_21 (-1) k) y Q := by
  unfold k_Co_step_21
  rw [if_pos rfl, hF]
  cases x with
  | none => exact ha
  | some o =>
    rw [po_bs2, if_neg (hne o rfl)]
    unfold k_Co_step_50
    rw [if_neg (hne o rfl)]
    exact ha
theorem ex_sr {β : Type} {k0 k : z_Sg} {x : Option (Int32 × z_Sg)} (hF : f_Fl_execute k = some (-2, k)) (hS : f_Sr_execute k = x) (hne : ∀ o, x = some o → ¬ o.1 = -2) {y : Option (Sum z_Dd β)} {Q : z_Sg → β → Prop} (ha : z_r k0 (x.bind S3) y Q) : z_r k0 (k_Co_step_21 (-1) k) y Q := by
  unfold k_Co_step_21
  rw [if_pos rfl, hF, po_bs2, if_pos rfl, hS]
  cases x with
  | none => exact ha
  | some o =>
    rw [po_bs2]
    unfold k_Co_step_50
    rw [if_neg (hne o rfl)]
    exact ha
def flE (n : Nat) : Bool := !(decide (n / 8 = 10) || decide (n / 8 = 11) || decide (n / 8 = 14) || decide (n / 8 = 15) || decide (n / 8 = 48) || decide (n / 8 = 49) || [104, 106, 143, 156, 157, 194, 195, 201, 224, 225, 226, 227, 232, 233, 235, 255, 261, 263].contains n)
theorem fl_c_0 : ∀ n, n < 512 → flE n = true → (¬ (nI n &&& (-8 : Int32)) = (80 : Int32)) ∧ (¬ (nI n &&& (-8 : Int32)) = (88 : Int32)) ∧ (¬ (nI n &&& (-8 : Int32)) = (112 : Int32)) ∧ (¬ (nI n &&& (-8 : Int32)) = (120 : Int32)) ∧ (¬ (nI n &&& (-8 : Int32)) = (384 : Int32)) := by decide +kernel
theorem fl_c_1 : ∀ n, n < 512 → flE n = true → (¬ (nI n &&& (-8 : Int32)) = (392 : Int32)) ∧ (¬ nI n = (104 : Int32)) ∧ (¬ nI n = (106 : Int32)) ∧ (¬ nI n = (143 : Int32)) ∧ (¬ nI n = (156 : Int32)) := by decide +kernel
theorem fl_c_2 : ∀ n, n < 512 → flE n = true → (¬ nI n = (157 : Int32)) ∧ (¬ nI n = (194 : Int32)) ∧ (¬ nI n = (195 : Int32)) ∧ (¬ nI n = (201 : Int32)) ∧ (¬ nI n = (224 : Int32)) := by decide +kernel
theorem fl_c_3 : ∀ n, n < 512 → flE n = true → (¬ nI n = (225 : Int32)) ∧ (¬ nI n = (226 : Int32)) ∧ (¬ nI n = (227 : Int32)) ∧ (¬ nI n = (232 : Int32)) ∧ (¬ nI n = (233 : Int32)) := by decide +kernel
theorem fl_c_4 : ∀ n, n < 512 → flE n = true → (¬ nI n = (235 : Int32)) ∧ (¬ nI n = (255 : Int32)) ∧ (¬ nI n = (261 : Int32)) ∧ (¬ nI n = (263 : Int32)) := by decide +kernel
theorem fl_c : ∀ n, n < 512 → flE n = true → (¬ (nI n &&& (-8 : Int32)) = (80 : Int32)) ∧ (¬ (nI n &&& (-8 : Int32)) = (88 : Int32)) ∧ (¬ (nI n &&& (-8 : Int32)) = (112 : Int32)) ∧ (¬ (nI n &&& (-8 : Int32)) = (120 : Int32)) ∧ (¬ (nI n &&& (-8 : Int32)) = (384 : Int32)) ∧ (¬ (nI n &&& (-8 : Int32)) = (392 : Int32)) ∧ (¬ nI n = (104 : Int32)) ∧ (¬ nI n = (106 : Int32)) ∧ (¬ nI n = (143 : Int32)) ∧ (¬ nI n = (156 : Int32)) ∧ (¬ nI n = (157 : Int32)) ∧ (¬ nI n = (194 : Int32)) ∧ (¬ nI n = (195 : Int32)) ∧ (¬ nI n = (201 : Int32)) ∧ (¬ nI n = (224 : Int32)) ∧ (¬ nI n = (225 : Int32)) ∧ (¬ nI n = (226 : Int32)) ∧ (¬ nI n = (227 : Int32)) ∧ (¬ nI n = (232 : Int32)) ∧ (¬ nI n = (233 : Int32)) ∧ (¬ nI n = (235 : Int32)) ∧ (¬ nI n = (255 : Int32)) ∧ (¬ nI n = (261 : Int32)) ∧ (¬ nI n = (263 : Int32)) := fun n h0 h1 => ⟨(fl_c_0 n h0 h1).1, (fl_c_0 n h0 h1).2.1, (fl_c_0 n h0 h1).2.2.1, (fl_c_0 n h0 h1).2.2.2.1, (fl_c_0 n h0 h1).2.2.2.2, (fl_c_1 n h0 h1).1, (fl_c_1 n h0 h1).2.1, (fl_c_1 n h0 h1).2.2.1, (fl_c_1 n h0 h1).2.2.2.1, (fl_c_1 n h0 h1).2.2.2.2, (fl_c_2 n h0 h1).1, (fl_c_2 n h0 h1).2.1, (fl_c_2 n h0 h1).2.2.1, (fl_c_2 n h0 h1).2.2.2.1, (fl_c_2 n h0 h1).2.2.2.2, (fl_c_3 n h0 h1).1, (fl_c_3 n h0 h1).2.1, (fl_c_3 n h0 h1).2.2.1, (fl_c_3 n h0 h1).2.2.2.1, (fl_c_3 n h0 h1).2.2.2.2, (fl_c_4 n h0 h1).1, (fl_c_4 n h0 h1).2.1, (fl_c_4 n h0 h1).2.2.1, (fl_c_4 n h0 h1).2.2.2⟩
theorem fl_no {k : z_Sg} {n : Nat} (hn : n < 512) (h : flE n = true) (ho : z_gI k 11 = nI n) : f_Fl_execute k = some (-2, k) := by
  obtain ⟨c1, c2, c3, c4, c5, c6, c7, c8, c9, c10, c11, c12, c13, c14, c15, c16, c17, c18, c19, c20, c21, c22, c23, c24⟩ := fl_c n hn h
  unfold f_Fl_execute
  rw [ho, if_neg c1, if_neg c2, if_neg c3, if_neg c4, if_neg c5, if_neg c6, if_neg c7, if_neg c8, if_neg c9, if_neg c10, if_neg c11, if_neg c12, if_neg c13, if_neg c14, if_neg c15, if_neg c16, if_neg c17, if_neg c18, if_neg c19, if_neg c20, if_neg c21, if_neg c22, if_neg c23, if_neg c24]
def srE (n : Nat) : Bool := !(decide (164 ≤ n ∧ n < 176) && !(decide (n / 2 = 84)))
theorem sr_c : ∀ n, n < 512 → srE n = true → ((nI n &&& (-2 : Int32)) < (164 : Int32)) ∨ ((174 : Int32) < (nI n &&& (-2 : Int32))) ∨ ((nI n &&& (-2 : Int32)) = (168 : Int32)) := by decide +kernel
theorem sr_no {k : z_Sg} {n : Nat} (hn : n < 512) (h : srE n = true) (ho : z_gI k 11 = nI n) : f_Sr_execute k = some (-2, k) := by
  unfold f_Sr_execute k_Sr_execute_32
  rw [po_nm2, ho]
  by_cases c1 : (nI n &&& (-2 : Int32)) < (164 : Int32)
  · rw [if_pos c1]
  · rw [if_neg c1]
    by_cases c2 : (174 : Int32) < (nI n &&& (-2 : Int32))
    · rw [if_pos c2]
    · rw [if_neg c2]
      rcases sr_c n hn h with c | c | c
      · exact absurd c c1
      · exact absurd c c2
      · rw [if_pos c]
theorem ex_1 {β : Type} {k0 k : z_Sg} {n : Nat} (hn : n < 256) (hf : flE n = true) (hs : srE n = true) (ho : z_gI k 11 = nI n) {y : Option (Sum z_Dd β)} {Q : z_Sg → β → Prop} (ha : z_r k0 ((f_On_execute k).bind S3) y Q) : z_r k0 (k_Co_step_21 (-1) k) y Q := by
  refine ex_one (fl_no (by omega) hf ho) (sr_no (by omega) hs ho) ?_ ha
  rw [ho]
  have : ∀ n, n < 256 → ¬ (256 : Int32) ≤ nI n := by decide +kernel
  exact this n hn
theorem ex_2 {β : Type} {k0 k : z_Sg} {n : Nat} (h2 : 256 ≤ n) (hn : n < 512) (hf : flE n = true) (ho : z_gI k 11 = nI n) {y : Option (Sum z_Dd β)} {Q : z_Sg → β → Prop} (ha : z_r k0 ((f_Tw_execute k).bind S3) y Q) : z_r k0 (k_Co_step_21 (-1) k) y Q := by
  have hs : ∀ n, n < 512 → 256 ≤ n → srE n = true ∧ (256 : Int32) ≤ nI n := by decide +kernel
  refine ex_two (fl_no hn hf ho) (sr_no hn (hs n hn h2).1 ho) ?_ ha
  rw [ho]
  exact (hs n hn h2).2
theorem tis {t : Int32} {k : z_Sg} (h : z_gI k 5 = 0 ∨ (t &&& (4 : Int32)) = 0) (ho : ¬ (z_gI k 11 &&& (-8 : Int32)) = 456) : f_De_isToldInSize t k = some 1 := by
  have e : k_De_isToldInSize_15 k = some 1 := by
    unfold k_De_isToldInSize_15
    rw [if_neg ho]
    rfl
  unfold f_De_isToldInSize
  by_cases c : z_gI k 5 = 0
  · rw [if_pos c, e]
  · rw [if_neg c]
    rcases h with h | h
    · exact absurd h c
    · rw [if_pos h, e]
theorem tis0 {t : Int32} {k : z_Sg} (h : ¬ z_gI k 5 = 0) (h4 : ¬ (t &&& (4 : Int32)) = 0) : f_De_isToldInSize t k = some 0 := by
  unfold f_De_isToldInSize
  rw [if_neg h, if_neg h4]
theorem o_bs {n : Nat} (hn : n < 512) (h : ¬ n / 8 = 57) : ¬ (nI n &&& (-8 : Int32)) = 456 := by
  have : ∀ n, n < 512 → ¬ n / 8 = 57 → ¬ (nI n &&& (-8 : Int32)) = 456 := by decide +kernel
  exact this n hn h
theorem bn_0 {t : Int32} {k : z_Sg} (h : (t &&& (8 : Int32)) = 0 ∧ (t &&& (16 : Int32)) = 0 ∧ (t &&& (32 : Int32)) = 0 ∧ (t &&& (64 : Int32)) = 0 ∧ (t &&& (128 : Int32)) = 0) (h1 : ¬ z_gI k 11 = 246) (h2 : ¬ z_gI k 11 = 247) : f_De_bytesOfNumber t k = some 0 := by
  unfold f_De_bytesOfNumber k_De_bytesOfNumber_70 k_De_bytesOfNumber_71
  rw [if_pos h.1, if_pos h.2.1, if_pos h.2.2.1, if_pos h.2.2.2.1, if_neg h1, if_neg h2, if_pos h.2.2.2.2]
  rfl
theorem bn_1 {t : Int32} {k : z_Sg} (h : ¬ (t &&& (8 : Int32)) = 0) : f_De_bytesOfNumber t k = some 1 := by
  unfold f_De_bytesOfNumber
  rw [if_neg h]
def z4 (rex small : Int32) : Nat := min (szV rex small) 4
theorem min_4 {n : Nat} (h : n = 2 ∨ n = 4 ∨ n = 8) (q : z_Sg) : f_Ma_min (nI n) 4 q = some (nI (min n 4)) := by
  rcases h with rfl | rfl | rfl <;> rfl
theorem bn_z {t : Int32} {k : z_Sg} (h : (t &&& (8 : Int32)) = 0 ∧ (t &&& (16 : Int32)) = 0 ∧ (t &&& (32 : Int32)) = 0 ∧ (t &&& (64 : Int32)) = 0 ∧ ¬ (t &&& (128 : Int32)) = 0) (h1 : ¬ z_gI k 11 = 246) (h2 : ¬ z_gI k 11 = 247) : f_De_bytesOfNumber t k = some (nI (z4 (z_gI k 6) (z_gI k 5))) := by
  unfold f_De_bytesOfNumber k_De_bytesOfNumber_70 k_De_bytesOfNumber_71 k_De_bytesOfNumber_94
  rw [if_pos h.1, if_pos h.2.1, if_pos h.2.2.1, if_pos h.2.2.2.1, if_neg h1, if_neg h2, if_neg h.2.2.2.2, K_sizeV, po_bs2, min_4 (szV_in _ _), po_bs2]
  rfl
theorem bn_v {t : Int32} {k : z_Sg} (h : (t &&& (8 : Int32)) = 0 ∧ (t &&& (16 : Int32)) = 0 ∧ (t &&& (32 : Int32)) = 0 ∧ ¬ (t &&& (64 : Int32)) = 0) : f_De_bytesOfNumber t k = some (nI (szV (z_gI k 6) (z_gI k 5))) := by
  unfold f_De_bytesOfNumber
  rw [if_pos h.1, if_pos h.2.1, if_pos h.2.2.1, if_neg h.2.2.2, K_sizeV, po_bs2]
theorem bn_4 {t : Int32} {k : z_Sg} (h : (t &&& (8 : Int32)) = 0 ∧ (t &&& (16 : Int32)) = 0 ∧ ¬ (t &&& (32 : Int32)) = 0) : f_De_bytesOfNumber t k = some 4 := by
  unfold f_De_bytesOfNumber
  rw [if_pos h.1, if_pos h.2.1, if_neg h.2.2]
theorem bn_2 {t : Int32} {k : z_Sg} (h : (t &&& (8 : Int32)) = 0 ∧ ¬ (t &&& (16 : Int32)) = 0) : f_De_bytesOfNumber t k = some 2 := by
  unfold f_De_bytesOfNumber
  rw [if_pos h.1, if_neg h.2]
theorem z4_in (rex small : Int32) : (z4 rex small = 2 ∨ z4 rex small = 4) ∧ z4 rex small ≤ szV rex small := by
  unfold z4
  rcases szV_in rex small with h | h | h <;> rw [h] <;> decide
theorem M_four {n : Nat} (hn : n ≤ 8) (m : z_Sg) : f_Mo_four (nI n) m = some (nI (min n 4)) := by
  have : ∀ n, n ≤ 8 → ∀ m : z_Sg, f_Mo_four (nI n) m = some (nI (min n 4)) := by
    intro n hn m
    have h : n = 0 ∨ n = 1 ∨ n = 2 ∨ n = 3 ∨ n = 4 ∨ n = 5 ∨ n = 6 ∨ n = 7 ∨ n = 8 := by omega
    rcases h with rfl | rfl | rfl | rfl | rfl | rfl | rfl | rfl | rfl <;> rfl
  exact this n hn m
def szO (n : Nat) (rex small : Int32) : Nat := if n % 2 = 0 then 1 else szV rex small
theorem szO_in (n : Nat) (rex small : Int32) : 1 ≤ szO n rex small ∧ szO n rex small ≤ 8 := by
  unfold szO
  have := szV_in rex small
  split <;> omega
theorem be_1 {k : z_Sg} {n : Nat} (hn : n < 256) (h : ¬ n = 99 ∧ ¬ n = 143 ∧ ¬ n = 255) (ho : z_gI k 11 = nI n) : f_Op_bytesOfE k = some (nI (szO n (z_gI k 6) (z_gI k 5))) := by
  have c_0 : ∀ n, n < 256 → (¬ n = 99 ∧ ¬ n = 143 ∧ ¬ n = 255) → ¬ nI n = 99 ∧ ¬ nI n = 143 ∧ ¬ nI n = 255 ∧ ¬ nI n = 432 ∧ ¬ nI n = 438 := by decide +kernel
  have c_1 : ∀ n, n < 256 → (¬ n = 99 ∧ ¬ n = 143 ∧ ¬ n = 255) → ¬ nI n = 439 ∧ ¬ nI n = 446 ∧ ¬ nI n = 447 ∧ ¬ nI n = 448 ∧ ¬ (256 : Int32) ≤ nI n := by decide +kernel
  have c_2 : ∀ n, n < 256 → (¬ n = 99 ∧ ¬ n = 143 ∧ ¬ n = 255) → ((nI n &&& (1 : Int32)) = 0 ↔ n % 2 = 0) := by decide +kernel
  have c : ∀ n, n < 256 → (¬ n = 99 ∧ ¬ n = 143 ∧ ¬ n = 255) → ¬ nI n = 99 ∧ ¬ nI n = 143 ∧ ¬ nI n = 255 ∧ ¬ nI n = 432 ∧ ¬ nI n = 438 ∧ ¬ nI n = 439 ∧ ¬ nI n = 446 ∧ ¬ nI n = 447 ∧ ¬ nI n = 448 ∧ ¬ (256 : Int32) ≤ nI n ∧ ((nI n &&& (1 : Int32)) = 0 ↔ n % 2 = 0) := fun n h0 h1 => ⟨(c_0 n h0 h1).1, (c_0 n h0 h1).2.1, (c_0 n h0 h1).2.2.1, (c_0 n h0 h1).2.2.2.1, (c_0 n h0 h1).2.2.2.2, (c_1 n h0 h1).1, (c_1 n h0 h1).2.1, (c_1 n h0 h1).2.2.1, (c_1 n h0 h1).2.2.2.1, (c_1 n h0 h1).2.2.2.2, (c_2 n h0 h1)⟩
  obtain ⟨c1, c2, c3, c4, c5, c6, c7, c8, c9, c10, c11⟩ := c n hn h
  unfold f_Op_bytesOfE k_Op_bytesOfE_194 szO
  rw [ho, if_neg c1, if_neg c2, if_neg c3, if_neg c4, if_neg c5, if_neg c6, if_neg c7, if_neg c8, if_neg c9, if_neg c10]
  by_cases e : n % 2 = 0
  · rw [if_pos (c11.mpr e), if_pos e]; rfl
  · rw [if_neg (fun x => e (c11.mp x)), if_neg e, K_sizeV, po_bs2]
def be2E (n : Nat) : Bool := !([432, 438, 439, 446, 447, 448].contains n)
theorem be_2 {k : z_Sg} {n : Nat} (h2 : 256 ≤ n) (hn : n < 512) (h : be2E n = true) (ho : z_gI k 11 = nI n) : f_Op_bytesOfE k = some (nI (if n / 16 = 25 then 1 else szV (z_gI k 6) (z_gI k 5))) := by
  have c_0 : ∀ n, n < 512 → 256 ≤ n → be2E n = true → ¬ nI n = 99 ∧ ¬ nI n = 143 ∧ ¬ nI n = 255 ∧ ¬ nI n = 432 ∧ ¬ nI n = 438 := by decide +kernel
  have c_1 : ∀ n, n < 512 → 256 ≤ n → be2E n = true → ¬ nI n = 439 ∧ ¬ nI n = 446 ∧ ¬ nI n = 447 ∧ ¬ nI n = 448 ∧ (256 : Int32) ≤ nI n := by decide +kernel
  have c_2 : ∀ n, n < 512 → 256 ≤ n → be2E n = true → ((nI n &&& (240 : Int32)) = 144 ↔ n / 16 = 25) := by decide +kernel
  have c : ∀ n, n < 512 → 256 ≤ n → be2E n = true → ¬ nI n = 99 ∧ ¬ nI n = 143 ∧ ¬ nI n = 255 ∧ ¬ nI n = 432 ∧ ¬ nI n = 438 ∧ ¬ nI n = 439 ∧ ¬ nI n = 446 ∧ ¬ nI n = 447 ∧ ¬ nI n = 448 ∧ (256 : Int32) ≤ nI n ∧ ((nI n &&& (240 : Int32)) = 144 ↔ n / 16 = 25) := fun n h0 h1 h2 => ⟨(c_0 n h0 h1 h2).1, (c_0 n h0 h1 h2).2.1, (c_0 n h0 h1 h2).2.2.1, (c_0 n h0 h1 h2).2.2.2.1, (c_0 n h0 h1 h2).2.2.2.2, (c_1 n h0 h1 h2).1, (c_1 n h0 h1 h2).2.1, (c_1 n h0 h1 h2).2.2.1, (c_1 n h0 h1 h2).2.2.2.1, (c_1 n h0 h1 h2).2.2.2.2, (c_2 n h0 h1 h2)⟩
  obtain ⟨c1, c2, c3, c4, c5, c6, c7, c8, c9, c10, c11⟩ := c n hn h2 h
  unfold f_Op_bytesOfE k_Op_bytesOfE_223
  rw [ho, if_neg c1, if_neg c2, if_neg c3, if_neg c4, if_neg c5, if_neg c6, if_neg c7, if_neg c8, if_neg c9, if_pos c10]
  by_cases e : n / 16 = 25
  · rw [if_pos (c11.mpr e), if_pos e]; rfl
  · rw [if_neg (fun x => e (c11.mp x)), if_neg e, K_sizeV, po_bs2]
theorem bd_0 {k : z_Sg} {n : Nat} (hn : n < 512) (h : ¬ n = 419 ∧ ¬ n = 427 ∧ ¬ n = 435 ∧ ¬ n = 443) (ho : z_gI k 11 = nI n) : f_Op_bitDistance k = some 0 := by
  have c : ∀ n, n < 512 → (¬ n = 419 ∧ ¬ n = 427 ∧ ¬ n = 435 ∧ ¬ n = 443) → ¬ nI n = 419 ∧ ¬ nI n = 427 ∧ ¬ nI n = 435 ∧ ¬ nI n = 443 := by decide +kernel
  obtain ⟨c1, c2, c3, c4⟩ := c n hn h
  unfold f_Op_bitDistance
  rw [ho, if_neg c1, if_neg c2, if_neg c3, if_neg c4]
def tmE (n : Nat) : Bool := !([141, 143, 192, 193, 198, 199, 208, 209, 210, 211, 246, 247, 254, 255, 442].contains n)
theorem tm_1 {k : z_Sg} {n : Nat} (hn : n < 512) (h : tmE n = true) (ho : z_gI k 11 = nI n) : f_De_isToldWithModrm k = some 1 := by
  have c_0 : ∀ n, n < 512 → tmE n = true → ¬ nI n = 141 ∧ ¬ nI n = 143 ∧ ¬ nI n = 192 ∧ ¬ nI n = 193 ∧ ¬ nI n = 198 := by decide +kernel
  have c_1 : ∀ n, n < 512 → tmE n = true → ¬ nI n = 199 ∧ ¬ nI n = 208 ∧ ¬ nI n = 209 ∧ ¬ nI n = 210 ∧ ¬ nI n = 211 := by decide +kernel
  have c_2 : ∀ n, n < 512 → tmE n = true → ¬ nI n = 246 ∧ ¬ nI n = 247 ∧ ¬ nI n = 254 ∧ ¬ nI n = 255 ∧ ¬ nI n = 442 := by decide +kernel
  have c : ∀ n, n < 512 → tmE n = true → ¬ nI n = 141 ∧ ¬ nI n = 143 ∧ ¬ nI n = 192 ∧ ¬ nI n = 193 ∧ ¬ nI n = 198 ∧ ¬ nI n = 199 ∧ ¬ nI n = 208 ∧ ¬ nI n = 209 ∧ ¬ nI n = 210 ∧ ¬ nI n = 211 ∧ ¬ nI n = 246 ∧ ¬ nI n = 247 ∧ ¬ nI n = 254 ∧ ¬ nI n = 255 ∧ ¬ nI n = 442 := fun n h0 h1 => ⟨(c_0 n h0 h1).1, (c_0 n h0 h1).2.1, (c_0 n h0 h1).2.2.1, (c_0 n h0 h1).2.2.2.1, (c_0 n h0 h1).2.2.2.2, (c_1 n h0 h1).1, (c_1 n h0 h1).2.1, (c_1 n h0 h1).2.2.1, (c_1 n h0 h1).2.2.2.1, (c_1 n h0 h1).2.2.2.2, (c_2 n h0 h1).1, (c_2 n h0 h1).2.1, (c_2 n h0 h1).2.2.1, (c_2 n h0 h1).2.2.2.1, (c_2 n h0 h1).2.2.2.2⟩
  obtain ⟨c1, c2, c3, c4, c5, c6, c7, c8, c9, c10, c11, c12, c13, c14, c15⟩ := c n hn h
  unfold f_De_isToldWithModrm
  rw [ho, if_neg c1, if_neg c2, if_neg c3, if_neg c4, if_neg c5, if_neg c6, if_neg c7, if_neg c8, if_neg c9, if_neg c10, if_neg c11, if_neg c12, if_neg c13, if_neg c14, if_neg c15]
def z_q0 : z_Sg := (fun _ => 0, fun _ => 0, fun _ _ => 0, fun _ _ => 0)
set_option maxRecDepth 20000 in
theorem fo_q (x : Int32) (q : z_Sg) : f_De_formOfOne x q = f_De_formOfOne x z_q0 := by
  have s : f_De_formOfSingle x q = f_De_formOfSingle x z_q0 := rfl
  have u : f_De_formOfSum (x &&& (7 : Int32)) q = f_De_formOfSum (x &&& (7 : Int32)) z_q0 := rfl
  unfold f_De_formOfOne k_De_formOfOne_136
  rw [s, u]
  rfl
set_option maxRecDepth 20000 in
theorem ft_q (x : Int32) (q : z_Sg) : f_De_formOfTwo x q = f_De_formOfTwo x z_q0 := rfl
def foT (n : Nat) : Nat :=
  if n < 64 then (if n % 8 < 4 then 2 else if n % 8 = 4 then 8 else if n % 8 = 5 then 128 else 0)
  else if n / 16 = 5 ∨ n / 8 = 18 then 1
  else if n / 16 = 7 then 12
  else if n / 8 = 22 then 8
  else if n / 8 = 23 then 64
  else if [0x98, 0x99, 0x9C, 0x9D, 0xA4, 0xA5, 0xA6, 0xA7, 0xAA, 0xAB, 0xAC, 0xAD, 0xAE, 0xAF, 0xF5, 0xF8, 0xF9, 0xFC, 0xFD].contains n then 1
  else if [0x63, 0x84, 0x85, 0x86, 0x87, 0x88, 0x89, 0x8A, 0x8B, 0x8D, 0x8F, 0xD0, 0xD1, 0xD2, 0xD3, 0xF6, 0xF7, 0xFE, 0xFF].contains n then 2
  else if [0x6A, 0xA8].contains n then 8
  else if [0x68, 0xA9].contains n then 128
  else if [0x6B, 0x80, 0x83, 0xC0, 0xC1, 0xC6].contains n then 10
  else if [0x69, 0x81, 0xC7].contains n then 130
  else if [0xC3, 0xC9].contains n then 4
  else if n = 0xC2 then 20
  else if [0xE0, 0xE1, 0xE2, 0xE3, 0xEB].contains n then 12
  else if [0xE8, 0xE9].contains n then 36
  else 0
theorem fo_t : ∀ n, n < 256 → f_De_formOfOne (nI n) z_q0 = some (nI (foT n)) := by decide +kernel
theorem fo_n {n : Nat} (hn : n < 256) (q : z_Sg) : f_De_formOfOne (nI n) q = some (nI (foT n)) := (fo_q _ q).trans (fo_t n hn)
def ftT (n : Nat) : Nat :=
  if n / 16 = 4 ∨ n / 16 = 9 then 2
  else if n / 16 = 8 then 36
  else if n / 8 = 25 then 1
  else if n = 5 ∨ n = 7 then 1
  else if [0xA3, 0xAB, 0xAF, 0xB0, 0xB1, 0xB3, 0xB6, 0xB7, 0xBB, 0xBC, 0xBD, 0xBE, 0xBF, 0xC0, 0xC1].contains n then 2
  else if n = 0xBA then 10
  else 0
theorem ft_t : ∀ n, n < 256 → f_De_formOfTwo (nI n) z_q0 = some (nI (ftT n)) := by decide +kernel
theorem ft_n {n : Nat} (hn : n < 256) (q : z_Sg) : f_De_formOfTwo (nI n) q = some (nI (ftT n)) := (ft_q _ q).trans (ft_t n hn)
