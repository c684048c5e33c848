theorem fb_b {f : Nat → Int32} {j : Nat} {b : Bool} (h : f j = b2i b) : fb f j = b := by
  unfold fb
  rw [h, b2i_b]
theorem fw_of {f : Nat → Int32} {c p h z s d o : Bool} (h0 : fb f 0 = c) (h1 : fb f 1 = p) (h2 : fb f 2 = h) (h3 : fb f 3 = z) (h4 : fb f 4 = s) (h5 : fb f 5 = d) (h6 : fb f 6 = o) : fw f = fwB c p h z s d o := by rw [fw_B, h0, h1, h2, h3, h4, h5, h6]
theorem st_f2 (f : Nat → Int32) (x : Int64) (tc tp th tz ts td to oc op oh oz os od oo c p h z s d o : Bool) : ((fw f &&& ((fwB tc tp th tz ts td to ||| fwB oc op oh oz os od oo) ^^^ (-1 : Int32))) ||| (fwB c p h z s d o &&& fwB tc tp th tz ts td to)) ||| (x.toInt32 &&& fwB oc op oh oz os od oo) = fwB (sel tc oc (fb f 0) c (tb x 0)) (sel tp op (fb f 1) p (tb x 2)) (sel th oh (fb f 2) h (tb x 4)) (sel tz oz (fb f 3) z (tb x 6)) (sel ts os (fb f 4) s (tb x 7)) (sel td od (fb f 5) d (tb x 10)) (sel to oo (fb f 6) o (tb x 11)) := by
  rw [fw_B, st_fw]
  simp only [tI_fwB, tI_l2i]
  simp
theorem K_set {f : Nat → Int32} {k : z_Sg} (hf : z_gI k 0 = fw f) {T V O : Int32} {tc tp th tz ts td to oc op oh oz os od oo c p h z s d o : Bool} (hT : T = fwB tc tp th tz ts td to) (hO : O = fwB oc op oh oz os od oo) (hV : V = fwB c p h z s d o) : f_Ar_settle T V O k = some (z_sI k 0 (fwB (sel tc oc (fb f 0) c (tb (z_gL k 4) 0)) (sel tp op (fb f 1) p (tb (z_gL k 4) 2)) (sel th oh (fb f 2) h (tb (z_gL k 4) 4)) (sel tz oz (fb f 3) z (tb (z_gL k 4) 6)) (sel ts os (fb f 4) s (tb (z_gL k 4) 7)) (sel td od (fb f 5) d (tb (z_gL k 4) 10)) (sel to oo (fb f 6) o (tb (z_gL k 4) 11)))) := by
  rw [K_settle, hf, hT, hO, hV, st_f2]
def fpos : Nat → Nat
  | 0 => 0
  | 1 => 2
  | 2 => 4
  | 3 => 6
  | 4 => 7
  | 5 => 10
  | _ => 11
theorem und_b (x : Int64) {t : Nat} (ht : t < 64) (m : z_Sg) : k_Mo_undefinedBit_62 x (nI t) m = some (b2i (tb x t)) := by
  unfold k_Mo_undefinedBit_62 k_Mo_undefinedBit_75 z_gd
  cases h : tb x t with
  | true => rw [if_pos ((tb_bit1 x ht).mpr h)]; rfl
  | false => rw [if_neg (fun e => by rw [(tb_bit1 x ht).mp e] at h; cases h)]; rfl
theorem M_leave {j : Nat} (hj : j < 7) (m : z_Sg) : f_Mo_leave (nI j) m = some (z_sN m 1 j (b2i (tb (z_gL m 4) (fpos j)))) := by
  have hu : f_Mo_undefinedBit (nI j) m = some (b2i (tb (z_gL m 4) (fpos j))) := by
    have : j = 0 ∨ j = 1 ∨ j = 2 ∨ j = 3 ∨ j = 4 ∨ j = 5 ∨ j = 6 := by omega
    rcases this with rfl | rfl | rfl | rfl | rfl | rfl | rfl
    · exact und_b _ (t := 0) (by decide) m
    · exact und_b _ (t := 2) (by decide) m
    · exact und_b _ (t := 4) (by decide) m
    · exact und_b _ (t := 6) (by decide) m
    · exact und_b _ (t := 7) (by decide) m
    · exact und_b _ (t := 10) (by decide) m
    · exact und_b _ (t := 11) (by decide) m
  unfold f_Mo_leave
  rw [hu, po_bs2, if_neg (in7 hj), po_nm2, b2i_nar, z_clp (by omega)]
theorem K_logic {f : Nat → Int32} {k : z_Sg} (hf : z_gI k 0 = fw f) (v : Int64) {n : Nat} (h1 : 1 ≤ n) (h8 : n ≤ 8) : f_Ar_logic v (nI n) k = some (v &&& mk n, z_sI k 0 (fwB false (pF v) (tb (z_gL k 4) 4) (zF v n) (sF v n) (fb f 5) false)) := by
  unfold f_Ar_logic
  rw [K_flagsOf v h1 h8, po_bs2, K_set hf (show (2245 : Int32) = fwB true true false true true false true by decide) (show (16 : Int32) = fwB false false true false false false false by decide) rfl, po_bs2, K_maskOf h1 h8, po_bs2]
  simp [sel]
def lgF (v : Int64) (n : Nat) (m : z_Sg) : z_Sg := rsF v n (z_sN (z_sN (z_sN m 1 0 0) 1 6 0) 1 2 (b2i (tb (z_gL m 4) 4)))
theorem M_logic (v : Int64) {n : Nat} (h1 : 1 ≤ n) (h8 : n ≤ 8) (m : z_Sg) : f_Mo_logic v (nI n) m = some (v, lgF v n m) := by
  unfold f_Mo_logic
  rw [if_neg (show ¬ z_bad (0 : Int32) 7 by decide), po_nm2, if_neg (show ¬ z_bad (6 : Int32) 7 by decide), po_nm2, show (2 : Int32) = nI 2 from rfl, M_leave (by decide), po_bs2, M_result v h1 h8, po_bs2]
  rfl
theorem fw_lg (v : Int64) (n : Nat) (m : z_Sg) : fw (z_gN (lgF v n m) 1) = fwB false (pF v) (tb (z_gL m 4) 4) (zF v n) (sF v n) (fb (z_gN m 1) 5) false :=
  fw_of (fb_b (b := false) rfl) (fb_b rfl) (fb_b rfl) (fb_b rfl) (fb_b rfl) rfl (fb_b (b := false) rfl)
def FU (k m k' m' : z_Sg) : Prop := fr [] [0] [] [] k k' ∧ fr [] [] [] [1] m m' ∧ z_gI k' 0 = fw (z_gN m' 1)
theorem logic_r {k m : z_Sg} (hf : z_gI k 0 = fw (z_gN m 1)) (hu : z_gL k 4 = z_gL m 4) {v v' : Int64} {n : Nat} (h1 : 1 ≤ n) (h8 : n ≤ 8) (hv : em n v v') : ∃ k' m', f_Ar_logic v (nI n) k = some (v &&& mk n, k') ∧ f_Mo_logic v' (nI n) m = some (v', m') ∧ FU k m k' m' := by
  refine ⟨_, _, K_logic hf v h1 h8, M_logic v' h1 h8 m, fr_sI fr_0 (by decide), ?_, ?_⟩
  · exact fr_sN (fr_sN (fr_sN (fr_sN (fr_sN (fr_sN fr_0 (by decide)) (by decide)) (by decide)) (by decide)) (by decide)) (by decide)
  · rw [fw_lg, ← hu, em_pF h1 h8 hv, em_zF h8 hv, em_sF h1 hv]; rfl
theorem sum_r {k m : z_Sg} (hf : z_gI k 0 = fw (z_gN m 1)) {a a' b b' : Int64} (c : Bool) {n : Nat} (h1 : 1 ≤ n) (h8 : n ≤ 8) (ha : em n a a') (hb : em n b b') : ∃ v k' m', f_Ar_sum a b (bL c) (nI n) k = some (v, k') ∧ f_Mo_add a' b' (b2i c) 0 (nI n) m = some (v, m') ∧ FU k m k' m' ∧ v = adV false a b c &&& mk n := by
  have ev : adV false a' b' c &&& mk n = adV false a b c &&& mk n := ((em_iff h8 _ _).mp (em_adV h8 ha hb false c)).symm
  refine ⟨_, _, rsF (adV false a' b' c) n (adF false a' b' c n m), K_sum hf a b c h1 h8, ?_, ⟨fr_sI fr_0 (by decide), ?_, ?_⟩, rfl⟩
  · rw [show (0 : Int32) = b2i false from rfl, M_add2 false a' b' c h1 h8, ev]
  · exact fr_sN (fr_sN (fr_sN (fr_sN (fr_sN (fr_sN fr_0 (by decide)) (by decide)) (by decide)) (by decide)) (by decide)) (by decide)
  · rw [fw_ad, em_pF h1 h8 (em_adV h8 ha hb false c), em_zF h8 (em_adV h8 ha hb false c), em_sF h1 (em_adV h8 ha hb false c), em_adC ha hb false c _ (Nat.le_refl _), em_adC ha hb false c 4 (by omega), em_adC ha hb false c (8 * n - 1) (by omega)]; rfl
theorem dif_r {k m : z_Sg} (hf : z_gI k 0 = fw (z_gN m 1)) {a a' b b' : Int64} (c : Bool) {n : Nat} (h1 : 1 ≤ n) (h8 : n ≤ 8) (ha : em n a a') (hb : em n b b') : ∃ v k' m', f_Ar_difference a b (bL c) (nI n) k = some (v, k') ∧ f_Mo_add a' b' (b2i c) 1 (nI n) m = some (v, m') ∧ FU k m k' m' ∧ v = adV true a b c &&& mk n := by
  have ev : adV true a' b' c &&& mk n = adV true a b c &&& mk n := ((em_iff h8 _ _).mp (em_adV h8 ha hb true c)).symm
  refine ⟨_, _, rsF (adV true a' b' c) n (adF true a' b' c n m), K_difference hf a b c h1 h8, ?_, ⟨fr_sI fr_0 (by decide), ?_, ?_⟩, rfl⟩
  · rw [show (1 : Int32) = b2i true from rfl, M_add2 true a' b' c h1 h8, ev]
  · exact fr_sN (fr_sN (fr_sN (fr_sN (fr_sN (fr_sN fr_0 (by decide)) (by decide)) (by decide)) (by decide)) (by decide)) (by decide)
  · rw [fw_ad, em_pF h1 h8 (em_adV h8 ha hb true c), em_zF h8 (em_adV h8 ha hb true c), em_sF h1 (em_adV h8 ha hb true c), em_adC ha hb true c _ (Nat.le_refl _), em_adC ha hb true c 4 (by omega), em_adC ha hb true c (8 * n - 1) (by omega)]; rfl
theorem em_or {n : Nat} {a a' b b' : Int64} (ha : em n a a') (hb : em n b b') : em n (a ||| b) (a' ||| b') := fun i hi => by rw [tb_or, tb_or, ha i hi, hb i hi]
theorem em_and {n : Nat} {a a' b b' : Int64} (ha : em n a a') (hb : em n b b') : em n (a &&& b) (a' &&& b') := fun i hi => by rw [tb_and, tb_and, ha i hi, hb i hi]
theorem em_xor {n : Nat} {a a' b b' : Int64} (ha : em n a a') (hb : em n b b') : em n (a ^^^ b) (a' ^^^ b') := fun i hi => by rw [tb_xor, tb_xor, ha i hi, hb i hi]
theorem carry_L (f : Nat → Int32) : ((fw f &&& (1 : Int32)).toInt64) = bL (fb f 0) := by
  have : ∀ c p h z s d o : Bool, ((fwB c p h z s d o &&& (1 : Int32)).toInt64) = bL c := by decide +kernel
  rw [fw_B, this]
theorem comb_r {k m : z_Sg} (hf : z_gI k 0 = fw (z_gN m 1)) (hu : z_gL k 4 = z_gL m 4) {a a' b b' : Int64} {n : Nat} (h1 : 1 ≤ n) (h8 : n ≤ 8) (ha : em n a a') (hb : em n b b') {j : Nat} (hj : j < 8) : ∃ v v' k' m', f_Ar_combine (nI j) a b (nI n) k = some (v, k') ∧ f_Mo_reckon (nI j) a' b' (nI n) m = some (v', m') ∧ FU k m k' m' ∧ em n v v' := by
  have cM : ∀ (tk : Int32), k_Mo_reckon_86 (nI n) tk a' b' m = (f_Mo_add a' b' (b2i (fb (z_gN m 1) 0)) tk (nI n) m).bind (fun r8 => some (r8.1, r8.2)) := by
    intro tk
    unfold k_Mo_reckon_86 k_Mo_reckon_99 k_Mo_reckon_100
    rw [if_neg (show ¬ z_bad (0 : Int32) 7 by decide)]
    unfold fb
    by_cases h0 : z_gN m 1 0 = 0
    · rw [if_pos (show z_gN m 1 (0 : Int32).toNatClampNeg = 0 from h0), decide_eq_false (fun x => x h0)]; rfl
    · rw [if_neg (show ¬ z_gN m 1 (0 : Int32).toNatClampNeg = 0 from h0), decide_eq_true h0]; rfl
  unfold f_Ar_combine
  rw [po_nm2, hf, carry_L]
  have hh : j = 0 ∨ j = 1 ∨ j = 2 ∨ j = 3 ∨ j = 4 ∨ j = 5 ∨ j = 6 ∨ j = 7 := by omega
  rcases hh with rfl | rfl | rfl | rfl | rfl | rfl | rfl | rfl
  · obtain ⟨v, k', m', s1, s2, s3, _⟩ := sum_r hf false h1 h8 ha hb
    exact ⟨v, v, k', m', by rw [if_pos (show nI 0 = 0 from rfl), show (0 : Int64) = bL false from rfl, s1, po_bs2], by show (f_Mo_add a' b' 0 0 (nI n) m).bind _ = _; rw [show f_Mo_add a' b' 0 0 (nI n) m = some (v, m') from s2, po_bs2], s3, em_r _ _⟩
  · obtain ⟨k', m', s1, s2, s3⟩ := logic_r hf hu h1 h8 (em_or ha hb)
    exact ⟨_, _, k', m', by show (f_Ar_logic (a ||| b) (nI n) k).bind _ = _; rw [s1, po_bs2], by show (f_Mo_logic (a' ||| b') (nI n) m).bind _ = _; rw [s2, po_bs2], s3, em_t (em_mk h8 _) (em_or ha hb)⟩
  · obtain ⟨v, k', m', s1, s2, s3, _⟩ := sum_r hf (fb (z_gN m 1) 0) h1 h8 ha hb
    exact ⟨v, v, k', m', by show (f_Ar_sum a b (bL (fb (z_gN m 1) 0)) (nI n) k).bind _ = _; rw [s1, po_bs2], by show k_Mo_reckon_86 (nI n) 0 a' b' m = _; rw [cM, s2, po_bs2], s3, em_r _ _⟩
  · obtain ⟨v, k', m', s1, s2, s3, _⟩ := dif_r hf (fb (z_gN m 1) 0) h1 h8 ha hb
    exact ⟨v, v, k', m', by show (f_Ar_difference a b (bL (fb (z_gN m 1) 0)) (nI n) k).bind _ = _; rw [s1, po_bs2], by show k_Mo_reckon_86 (nI n) 1 a' b' m = _; rw [cM, s2, po_bs2], s3, em_r _ _⟩
  · obtain ⟨k', m', s1, s2, s3⟩ := logic_r hf hu h1 h8 (em_and ha hb)
    exact ⟨_, _, k', m', by show (f_Ar_logic (a &&& b) (nI n) k).bind _ = _; rw [s1, po_bs2], by show (f_Mo_logic (a' &&& b') (nI n) m).bind _ = _; rw [s2, po_bs2], s3, em_t (em_mk h8 _) (em_and ha hb)⟩
  · obtain ⟨v, k', m', s1, s2, s3, _⟩ := dif_r hf false h1 h8 ha hb
    exact ⟨v, v, k', m', by show (f_Ar_difference a b (bL false) (nI n) k).bind _ = _; rw [s1, po_bs2], by show (f_Mo_add a' b' 0 1 (nI n) m).bind _ = _; rw [show f_Mo_add a' b' 0 1 (nI n) m = some (v, m') from s2, po_bs2], s3, em_r _ _⟩
  · obtain ⟨k', m', s1, s2, s3⟩ := logic_r hf hu h1 h8 (em_xor ha hb)
    exact ⟨_, _, k', m', by show (f_Ar_logic (a ^^^ b) (nI n) k).bind _ = _; rw [s1, po_bs2], by show (f_Mo_logic (a' ^^^ b') (nI n) m).bind _ = _; rw [s2, po_bs2], s3, em_t (em_mk h8 _) (em_xor ha hb)⟩
  · obtain ⟨v, k', m', s1, s2, s3, _⟩ := dif_r hf false h1 h8 ha hb
    exact ⟨v, v, k', m', by show (f_Ar_difference a b (bL false) (nI n) k).bind _ = _; rw [s1, po_bs2], by show (f_Mo_add a' b' 0 1 (nI n) m).bind _ = _; rw [show f_Mo_add a' b' 0 1 (nI n) m = some (v, m') from s2, po_bs2], s3, em_r _ _⟩
theorem FB_b {m : z_Sg} (h : FB m) (j : Nat) : z_gN m 1 j = b2i (fb (z_gN m 1) j) := by
  unfold fb
  rcases h j with e | e <;> rw [e] <;> rfl
def hldB (c p z s o : Bool) (n : Nat) : Bool := (if n / 2 % 8 = 0 then o else if n / 2 % 8 = 1 then c else if n / 2 % 8 = 2 then z else if n / 2 % 8 = 3 then (c || z) else if n / 2 % 8 = 4 then s else if n / 2 % 8 = 5 then p else if n / 2 % 8 = 6 then (s ^^ o) else ((s ^^ o) || z)) ^^ decide (n % 2 = 1)
theorem K_holds {f : Nat → Int32} {k : z_Sg} (hf : z_gI k 0 = fw f) {n : Nat} (hn : n < 512) : f_Ar_holds (nI n) k = some (b2i (hldB (fb f 0) (fb f 1) (fb f 3) (fb f 4) (fb f 6) n)) := by
  have e0 : ∀ c p h z s d o : Bool, ((fwB c p h z s d o &&& (2048 : Int32)) = 0 ↔ o = false) ∧ ((fwB c p h z s d o &&& (1 : Int32)) = 0 ↔ c = false) ∧ ((fwB c p h z s d o &&& (64 : Int32)) = 0 ↔ z = false) ∧ ((fwB c p h z s d o &&& (65 : Int32)) = 0 ↔ (c || z) = false) ∧ ((fwB c p h z s d o &&& (128 : Int32)) = 0 ↔ s = false) ∧ ((fwB c p h z s d o &&& (4 : Int32)) = 0 ↔ p = false) := by decide +kernel
  have en : ∀ n, n < 512 → ((nI n >>> ((1 : Int32) &&& 31)) &&& (7 : Int32)) = nI (n / 2 % 8) ∧ ((nI n &&& (1 : Int32)) = 0 ↔ n % 2 = 0) := by decide +kernel
  obtain ⟨n1, n2⟩ := en n hn
  unfold f_Ar_holds k_Ar_holds_21 k_Ar_holds_34 k_Ar_holds_42 k_Ar_holds_105 k_Ar_holds_121 k_Ar_holds_138 k_Ar_holds_155 k_Ar_holds_173 k_Ar_holds_189 k_Ar_holds_216 k_Ar_holds_211 k_Ar_holds_216
  rw [po_nm2, hf, fw_B]
  generalize fb f 0 = c
  generalize fb f 1 = p
  generalize fb f 2 = h
  generalize fb f 3 = z
  generalize fb f 4 = s
  generalize fb f 5 = d
  generalize fb f 6 = o
  obtain ⟨o1, o2, o3, o4, o5, o6⟩ := e0 c p h z s d o
  simp only [o1, o2, o3, o4, o5, o6, n1]
  have last : ∀ t : Bool, k_Ar_holds_218 (nI n) (b2i t) k = some (b2i (t ^^ decide (n % 2 = 1))) := by
    intro t
    unfold k_Ar_holds_218 k_Ar_holds_231 k_Ar_holds_239 z_gd
    by_cases c2 : n % 2 = 0
    · rw [if_pos (n2.mpr c2), decide_eq_false (show ¬ n % 2 = 1 by omega)]
      cases t <;> rfl
    · rw [if_neg (fun x => c2 (n2.mp x)), decide_eq_true (show n % 2 = 1 by omega)]
      cases t <;> rfl
  have l0 := last false
  have l1 := last true
  have f0 : b2i false = 0 := rfl
  have f1 : b2i true = 1 := rfl
  rw [f0] at l0
  rw [f1] at l1
  unfold hldB
  have h8 : n / 2 % 8 < 8 := by omega
  generalize n / 2 % 8 = q at h8 ⊢
  have hq : q = 0 ∨ q = 1 ∨ q = 2 ∨ q = 3 ∨ q = 4 ∨ q = 5 ∨ q = 6 ∨ q = 7 := by omega
  have z01 : ¬ (0 : Int32) = 1 := by decide
  have z10 : ¬ (1 : Int32) = 0 := by decide
  rcases hq with rfl | rfl | rfl | rfl | rfl | rfl | rfl | rfl <;> cases c <;> cases p <;> cases z <;> cases s <;> cases o <;> first | exact l0 | exact l1
theorem M_holds {m : z_Sg} (hF : FB m) {n : Nat} (hn : n < 512) : f_Mo_holds (nI n) m = some (b2i (hldB (fb (z_gN m 1) 0) (fb (z_gN m 1) 1) (fb (z_gN m 1) 3) (fb (z_gN m 1) 4) (fb (z_gN m 1) 6) n)) := by
  have en : ∀ n, n < 512 → ((nI n / (2 : Int32)) - (nI n / (2 : Int32)) / (8 : Int32) * (8 : Int32)) = nI (n / 2 % 8) ∧ ((nI n - nI n / (2 : Int32) * (2 : Int32)) = 0 ↔ n % 2 = 0) := by decide +kernel
  obtain ⟨n1, n2⟩ := en n hn
  unfold f_Mo_holds k_Mo_holds_21 k_Mo_holds_153 k_Mo_holds_94
  rw [if_neg (show ¬ z_bad (4 : Int32) 7 by decide), if_neg (show ¬ z_bad (6 : Int32) 7 by decide), po_nm2, po_nm2, n1]
  rw [if_neg (show ¬ z_bad (6 : Int32) 7 by decide), if_neg (show ¬ z_bad (0 : Int32) 7 by decide), if_neg (show ¬ z_bad (3 : Int32) 7 by decide), if_neg (show ¬ z_bad (0 : Int32) 7 by decide), if_neg (show ¬ z_bad (3 : Int32) 7 by decide), if_neg (show ¬ z_bad (4 : Int32) 7 by decide), if_neg (show ¬ z_bad (1 : Int32) 7 by decide)]
  rw [show (0 : Int32).toNatClampNeg = 0 from rfl, show (1 : Int32).toNatClampNeg = 1 from rfl, show (3 : Int32).toNatClampNeg = 3 from rfl, show (4 : Int32).toNatClampNeg = 4 from rfl, show (6 : Int32).toNatClampNeg = 6 from rfl]
  rw [FB_b hF 0, FB_b hF 1, FB_b hF 3, FB_b hF 4, FB_b hF 6]
  have bb : ∀ j, fb (fun i => z_gN m 1 i) j = fb (z_gN m 1) j := fun _ => rfl
  generalize fb (z_gN m 1) 0 = c
  generalize fb (z_gN m 1) 1 = p
  generalize fb (z_gN m 1) 3 = z
  generalize fb (z_gN m 1) 4 = s
  generalize fb (z_gN m 1) 6 = o
  have last : ∀ t : Bool, k_Mo_holds_158 (nI n) (b2i t) m = some (b2i (t ^^ decide (n % 2 = 1))) := by
    intro t
    unfold k_Mo_holds_158 k_Mo_holds_181 z_gd
    by_cases c2 : n % 2 = 0
    · rw [if_pos (n2.mpr c2), decide_eq_false (show ¬ n % 2 = 1 by omega)]
      cases t <;> rfl
    · rw [if_neg (fun x => c2 (n2.mp x)), decide_eq_true (show n % 2 = 1 by omega)]
      cases t <;> rfl
  have l0 := last false
  have l1 := last true
  unfold hldB
  have h8 : n / 2 % 8 < 8 := by omega
  generalize n / 2 % 8 = q at h8 ⊢
  have hq : q = 0 ∨ q = 1 ∨ q = 2 ∨ q = 3 ∨ q = 4 ∨ q = 5 ∨ q = 6 ∨ q = 7 := by omega
  rcases hq with rfl | rfl | rfl | rfl | rfl | rfl | rfl | rfl <;> cases c <;> cases p <;> cases z <;> cases s <;> cases o <;> first | exact l0 | exact l1
theorem hld_r {k m : z_Sg} (hf : z_gI k 0 = fw (z_gN m 1)) (hF : FB m) {n : Nat} (hn : n < 512) {n' : Nat} (hn' : n' < 512) (he : n % 16 = n' % 16) : ∃ b : Bool, f_Ar_holds (nI n) k = some (b2i b) ∧ f_Mo_holds (nI n') m = some (b2i b) := by
  refine ⟨_, K_holds hf hn, ?_⟩
  rw [M_holds hF hn']
  unfold hldB
  rw [show n' / 2 % 8 = n / 2 % 8 by omega, show n' % 2 = n % 2 by omega]
