theorem o_mod {n : Nat} (hn : n < 512) : (nI n &&& (7 : Int32)) = nI (n % 8) ∧ nI n - nI n / (8 : Int32) * (8 : Int32) = nI (n % 8) := by
  have : ∀ n, n < 512 → (nI n &&& (7 : Int32)) = nI (n % 8) ∧ nI n - nI n / (8 : Int32) * (8 : Int32) = nI (n % 8) := by decide +kernel
  exact this n hn
theorem rO {k m : z_Sg} {n : Nat} (hn : n < 512) (ho : z_gI k 11 = nI n) (h : z_gI k 6 = z_gI m 10) : ∃ e j, j < 16 ∧ f_De_registerO k = some (nI j) ∧ f_Mo_plus 1 m = some e ∧ nI (n % 8) + e = nI j ∧ (j = n % 8 ∨ j = n % 8 + 8) ∧ (f_De_extension 1 k = some e) := by
  obtain ⟨e, j, hj, x1, x2, x3, x4, x5⟩ := rno h 1 (show n % 8 < 8 by omega)
  refine ⟨e, j, hj, ?_, x2, x4, x5, x1⟩
  unfold f_De_registerO
  rw [x1, po_bs2, ho, (o_mod hn).1, x3]
theorem g_imm {k0 k m : z_Sg} {n : Nat} (h1 : 176 ≤ n) (h2 : n < 192) (h : TQ (nI n) k0 k m) : z_r k0 ((k_De_decode_43 (-1) (nI (foT n)) k).bind S1) (e_f_Mo_immediate (nI n) m) FQQ := by
  have fx : ∀ n, n < 192 → 176 ≤ n → flE n = true ∧ srE n = true ∧ (¬ nI (foT n) = 0 ∧ (nI (foT n) &&& (4 : Int32)) = 0 ∧ (nI (foT n) &&& (2 : Int32)) = 0) ∧ ((184 : Int32) ≤ nI n ↔ 184 ≤ n) := by decide +kernel
  obtain ⟨f1, f2, ⟨t1, t2, t3⟩, f4⟩ := fx n h2 h1
  obtain ⟨x6, x5⟩ := TQ_x h
  have hs : f_De_isToldInSize (nI (foT n)) k = some 1 := tis (Or.inr t2) (by rw [TQ_o h]; exact o_bs (by omega) (by omega))
  have hz := szV_8 (z_gI m 10) (z_gI m 16)
  have go : ∀ s, 1 ≤ s → s ≤ 8 → f_De_bytesOfNumber (nI (foT n)) (z_sI k 12 3) = some (nI s) → (∀ k', z_gI k' 11 = nI n → z_gI k' 6 = z_gI k 6 → z_gI k' 5 = z_gI k 5 → f_On_execute k' = (f_De_registerO k').bind (fun r4 => (f_Op_putPart r4 (z_gL k' 9) (nI s) k').bind (fun r5 => some ((-1 : Int32), r5)))) → z_r k0 ((k_De_decode_43 (-1) (nI (foT n)) k).bind S1) (e_k_Mo_immediate_15 (nI n) (nI s) m) FQQ := by
    intro s s1 s8 hb hex
    unfold e_k_Mo_immediate_15
    refine dec_xn h t1 t3 hs s1 s8 hb (fun k' b hp h3 h9 g6 g5 => ?_)
    have ho : z_gI k' 11 = nI n := hp.2.2.2.1
    refine ex_1 (by omega) f1 f2 ho ?_
    rw [hex k' ho g6 g5]
    obtain ⟨e, j, hj, y1, y2, y3, _, _⟩ := rO (by omega) ho (EQn_x hp.1.1)
    obtain ⟨k4, m4, w1, w2, w3, _⟩ := wA hp.1 hj s1 s8 (em_r _ b.1)
    rw [y1, po_bs2, h9, w1]
    refine r_M y2 ?_
    rw [(o_mod (by omega)).2, y3]
    exact r_M w2 (fin w3)
  unfold e_f_Mo_immediate
  by_cases c : 184 ≤ n
  · rw [if_pos (f4.mpr c), M_wide, po_bs2]
    have ft : foT n = 64 := by
      have : ∀ n, n < 192 → 184 ≤ n → foT n = 64 := by decide +kernel
      exact this n h2 c
    refine go _ hz.1 hz.2 ?_ (fun k' e e6 e5 => ?_)
    · rw [ft]
      refine (bn_v (t := nI 64) (k := z_sI k 12 3) (by decide)).trans ?_
      show some (nI (szV (z_gI k 6) (z_gI k 5))) = _
      rw [x6, x5]
    · have cc : ∀ n, n < 192 → 184 ≤ n → ¬ (nI n &&& (-8 : Int32)) = 144 ∧ ¬ (nI n &&& (-8 : Int32)) = 176 ∧ (nI n &&& (-8 : Int32)) = 184 := by decide +kernel
      obtain ⟨c1, c2, c3⟩ := cc n h2 c
      unfold f_On_execute
      rw [e, if_neg c1, if_neg c2, if_pos c3, K_sizeV, e6, e5, x6, x5]
      rfl
  · rw [if_neg (fun x => c (f4.mp x))]
    have ft : foT n = 8 := by
      have : ∀ n, n < 184 → 176 ≤ n → foT n = 8 := by decide +kernel
      exact this n (by omega) h1
    refine go 1 (by decide) (by decide) ?_ (fun k' e e6 e5 => ?_)
    · rw [ft]
      exact bn_1 (by decide)
    · have cc : ∀ n, n < 184 → 176 ≤ n → ¬ (nI n &&& (-8 : Int32)) = 144 ∧ (nI n &&& (-8 : Int32)) = 176 := by decide +kernel
      obtain ⟨c1, c2⟩ := cc n (by omega) h1
      unfold f_On_execute
      rw [e, if_neg c1, if_pos c2]
      rfl
theorem run_a {β : Type} {k0 k m : z_Sg} {n : Nat} (hn : n < 512) (hx : !(decide (n / 8 = 57)) && !(decide (n = 246)) && !(decide (n = 247)) = true) (h : TQ (nI n) k0 k m) (hg : z_gL m 7 = z_gL m 0 + (z_gI m 6).toInt64) {y : Option (Sum z_Dd β)} {Q : z_Sg → β → Prop} (ha : ∀ k', PR (nI n) k0 k' m → z_gI k' 11 = nI n → z_r k0 (k_Co_step_21 (-1) k') y Q) : z_r k0 ((k_De_decode_43 (-1) 1 k).bind S1) y Q := by
  have c : ∀ n, n < 512 → !(decide (n / 8 = 57)) && !(decide (n = 246)) && !(decide (n = 247)) = true → ¬ (nI n &&& (-8 : Int32)) = 456 ∧ ¬ nI n = 246 ∧ ¬ nI n = 247 := by decide +kernel
  obtain ⟨c1, c2, c3⟩ := c n hn hx
  have ho := TQ_o h
  exact dec_x0 h hg (by decide) (by decide) (tis (Or.inr (by decide)) (by rw [ho]; exact c1)) (bn_0 (by decide) (by rw [show z_gI (z_sI k 12 3) 11 = nI n from ho]; exact c2) (by rw [show z_gI (z_sI k 12 3) 11 = nI n from ho]; exact c3)) (fun k' hp _ _ => ha k' hp hp.2.2.2.1)
theorem hf_n {s : Nat} (h : s = 2 ∨ s = 4 ∨ s = 8) : nI s / (2 : Int32) = nI (s / 2) := by rcases h with rfl | rfl | rfl <;> rfl
theorem sx_neg (a : Int64) {n : Nat} (h1 : 1 ≤ n) (h8 : n ≤ 8) : ((0 : Int64) ≤ sx a n) ↔ sF a n = false := by
  have e : tb (sx a n) 63 = sF a n := by
    rw [tb_sx a h1 h8 63 (by decide)]
    unfold sF
    by_cases c : 63 < 8 * n
    · rw [if_pos c, show 8 * n - 1 = 63 by omega]
    · rw [if_neg c]
  rw [← e]
  constructor
  · intro h
    cases hh : tb (sx a n) 63 with
    | false => rfl
    | true => exact absurd ((tb_lt0 _).mpr hh) (Int64.not_lt.mpr h)
  · intro h
    exact Int64.not_lt.mp (fun y => by rw [(tb_lt0 _).mp y] at h; cases h)
theorem no_hi {R : Nat → Int64} {rex : Int32} {j n : Nat} (h : 2 ≤ n) : rgN R rex j n = R j &&& mk n := by
  unfold rgN
  rw [if_neg (fun x => by have := x.1; omega)]
theorem g_turn {k0 k m : z_Sg} {n : Nat} (h1 : 144 ≤ n) (h2 : n < 154) (h : TQ (nI n) k0 k m) (hg : z_gL m 7 = z_gL m 0 + (z_gI m 6).toInt64) : z_r k0 ((k_De_decode_43 (-1) 1 k).bind S1) ((f_Mo_turn (nI n) m).bind (fun r48 => ((k_Mo_first_415 r48).bind (fun o => some (.inr o))))) FQQ := by
  have fx : ∀ n, n < 154 → 144 ≤ n → flE n = true ∧ srE n = true ∧ (!(decide (n / 8 = 57)) && !(decide (n = 246)) && !(decide (n = 247)) = true) ∧ ((nI n = (152 : Int32)) ↔ n = 152) ∧ ((nI n = (153 : Int32)) ↔ n = 153) ∧ ((nI n = (144 : Int32)) ↔ n = 144) ∧ ((nI n &&& (-8 : Int32)) = 144 ↔ n < 152) := by decide +kernel
  obtain ⟨f1, f2, f3, f4, f5, f6, f7⟩ := fx n h2 h1
  obtain ⟨x6, x5⟩ := TQ_x h
  refine run_a (by omega) f3 h hg (fun k' hp ho => ?_)
  refine ex_1 (by omega) f1 f2 ho ?_
  have w6 := EQn_x hp.1.1
  have w5 := EQn_s hp.1.1
  obtain ⟨e, j, hj, y1, y2, y3, y4, y5⟩ := rO (by omega) ho w6
  have hz := szV_8 (z_gI m 10) (z_gI m 16)
  have hz2 := szV_in (z_gI m 10) (z_gI m 16)
  have r0 : z_gM k' 0 0 = z_gM m 0 0 := EQn_r hp.1.1 (by decide)
  unfold f_Mo_turn k_Mo_turn_120
  rw [M_wide, po_bs2, y2, po_bs2, po_nm2, (o_mod (by omega)).2, y3]
  by_cases c2 : n = 152
  · subst c2
    rw [if_pos (f4.mpr rfl), if_neg (show ¬ z_bad (0 : Int32) 16 by decide), hf_n hz2]
    rw [on_215 (n := 152) (by decide) (by decide) ho]
    have ee : ∀ x, f_On_executeSingle x k' = ((f_De_sizeV k').bind (fun r24 => (f_Ar_signed (z_gM k' 0 (0 : Int32).toNatClampNeg) (r24 / (2 : Int32)) k').bind (fun r25 => (f_De_sizeV k').bind (fun r26 => (f_Op_putPart (0 : Int32) r25 r26 k').bind (fun r27 => k_On_move_327 r27))))).bind k_On_executeSingle_432 := by
      intro x
      unfold f_On_executeSingle f_On_move
      rw [ho]; rfl
    rw [ee, K_sizeV, po_bs2, w6, w5, hf_n hz2, K_signed _ (by omega) (by omega), po_bs2, po_bs2]
    show z_r k0 _ (((f_Mo_extended (z_gM m 0 0) (nI (szV (z_gI m 10) (z_gI m 16) / 2)) m).bind _).bind _) FQQ
    rw [M_extended _ (by omega) (by omega), po_bs2]
    obtain ⟨k4, m4, w1, w2, w3, _⟩ := wA (j := 0) hp.1 (by decide) hz.1 hz.2 (em_r _ (sx (z_gM m 0 0) (szV (z_gI m 10) (z_gI m 16) / 2)))
    show z_r k0 ((((((f_Op_putPart 0 (sx (z_gM k' 0 0) (szV (z_gI m 10) (z_gI m 16) / 2)) (nI (szV (z_gI m 10) (z_gI m 16))) k').bind _).bind _).bind _).bind _)) _ FQQ
    rw [r0, show (0 : Int32) = nI 0 from rfl, w1, w2]
    exact fin1 w3
  · rw [if_neg (fun x => c2 (f4.mp x))]
    by_cases c3 : n = 153
    · subst c3
      rw [if_pos (f5.mpr rfl), if_neg (show ¬ z_bad (0 : Int32) 16 by decide), M_top _ hz.1 hz.2, po_bs2]
      rw [on_215 (n := 153) (by decide) (by decide) ho]
      have ee : ∀ x, f_On_executeSingle x k' = ((f_Ar_signed (z_gM k' 0 (0 : Int32).toNatClampNeg) x k').bind (fun r30 => if (0 : Int64) ≤ r30 then (k_On_move_303 x (2 : Int32) (0 : Int64) k') else (k_On_move_303 x (2 : Int32) (-1 : Int64) k'))).bind k_On_executeSingle_432 := by
        intro x
        unfold f_On_executeSingle f_On_move
        rw [ho]; rfl
      have es : szO 153 (z_gI k' 6) (z_gI k' 5) = szV (z_gI m 10) (z_gI m 16) := by
        show szV (z_gI k' 6) (z_gI k' 5) = _
        rw [w6, w5]
      rw [ee, es, K_signed _ hz.1 hz.2, po_bs2]
      show z_r k0 (((if (0 : Int64) ≤ sx (z_gM k' 0 0) _ then _ else _ : Option z_Sg).bind _).bind _ |>.bind _) ((if b2i (sF (z_gM m 0 0) _) = 0 then _ else _ : Option z_Sg).bind _) FQQ
      rw [r0]
      unfold k_On_move_303 k_Mo_turn_74 k_Mo_turn_120
      cases hs : sF (z_gM m 0 0) (szV (z_gI m 10) (z_gI m 16)) with
      | false =>
        rw [if_pos ((sx_neg _ hz.1 hz.2).mpr hs), if_pos (show b2i false = 0 from rfl)]
        obtain ⟨k4, m4, w1, w2, w3, _⟩ := wA (j := 2) hp.1 (by decide) hz.1 hz.2 (em_r _ 0)
        rw [show (2 : Int32) = nI 2 from rfl, w1, w2]
        exact fin1 w3
      | true =>
        rw [if_neg (fun x => by rw [(sx_neg _ hz.1 hz.2).mp x] at hs; cases hs), if_neg (show ¬ b2i true = 0 by decide)]
        obtain ⟨k4, m4, w1, w2, w3, _⟩ := wA (j := 2) hp.1 (by decide) hz.1 hz.2 (em_r _ (-1))
        rw [show (2 : Int32) = nI 2 from rfl, w1, w2]
        exact fin1 w3
    · rw [if_neg (fun x => c3 (f5.mp x))]
      have n152 : n < 152 := by omega
      have eo : f_On_execute k' = (f_On_changePlacesWithA k').bind (fun r2 => some ((-1 : Int32), r2)) := by
        unfold f_On_execute
        rw [ho, if_pos (f7.mpr n152)]
      rw [eo]
      have hB : j = 0 ↔ (n = 144 ∧ f_De_hasB k' = some 0) := by
        have hb : f_De_hasB k' = some (if (z_gI k' 6 &&& (1 : Int32)) = 0 then 0 else 1) := by
          unfold f_De_hasB k_De_hasB_14
          split <;> rfl
        have he : f_De_extension 1 k' = some (if (z_gI k' 6 &&& (1 : Int32)) = 0 then 0 else 8) := by
          unfold f_De_extension k_De_extension_15
          split <;> rfl
        rw [y5] at he
        have he := Option.some.inj he
        rw [hb]
        by_cases cb : (z_gI k' 6 &&& (1 : Int32)) = 0
        · rw [if_pos cb] at he ⊢
          have : nI (n % 8) + (0 : Int32) = nI j := by rw [← he]; exact y3
          rw [Int32.add_zero] at this
          have : n % 8 = j := by
            have q : ∀ a, a < 8 → ∀ b, b < 16 → nI a = nI b → a = b := by decide +kernel
            exact q _ (by omega) _ hj this
          constructor
          · intro h; exact ⟨by omega, rfl⟩
          · rintro ⟨h, _⟩; omega
        · rw [if_neg cb] at he ⊢
          have : nI (n % 8) + (8 : Int32) = nI j := by rw [← he]; exact y3
          have : n % 8 + 8 = j := by
            have q : ∀ a, a < 8 → ∀ b, b < 16 → nI a + (8 : Int32) = nI b → a + 8 = b := by decide +kernel
            exact q _ (by omega) _ hj this
          constructor
          · intro h; omega
          · rintro ⟨_, h⟩; cases h
      have n0 : (nI j = 0) ↔ j = 0 := by
        have q : ∀ b, b < 16 → (nI b = 0 ↔ b = 0) := by decide +kernel
        exact q j hj
      unfold f_On_changePlacesWithA
      rw [ho]
      by_cases c0 : j = 0
      · obtain ⟨g1, g2⟩ := hB.mp c0
        rw [if_pos (n0.mpr c0), if_pos (f6.mpr g1), g2]
        exact fin hp.1
      · rw [if_neg (fun x => c0 (n0.mp x)), if_neg (show ¬ z_bad (0 : Int32) 16 by decide), M_lowest _ hz.2, po_bs2, if_neg (in16 hj), M_lowest _ hz.2, po_bs2, z_clp (by omega)]
        have tail : z_r k0 ((k_On_changePlacesWithA_24 k').bind (fun r2 => some ((-1 : Int32), r2)) |>.bind S3) (((f_Mo_put8 0 (nI (szV (z_gI m 10) (z_gI m 16))) (z_gM m 0 j &&& mk (szV (z_gI m 10) (z_gI m 16))) m).bind (fun r11 => (f_Mo_put8 (nI j) (nI (szV (z_gI m 10) (z_gI m 16))) (z_gM m 0 0 &&& mk (szV (z_gI m 10) (z_gI m 16))) r11).bind (fun r12 => some r12))).bind (fun r48 => ((k_Mo_first_415 r48).bind (fun o => some (.inr o))))) FQQ := by
          unfold k_On_changePlacesWithA_24
          have p0 : f_Op_part 0 (nI (szV (z_gI m 10) (z_gI m 16))) k' = some (z_gM m 0 0 &&& mk (szV (z_gI m 10) (z_gI m 16))) := by
            have := K_part (k := k') (j := 0) (n := szV (z_gI m 10) (z_gI m 16)) (by decide) hz.1 hz.2
            rw [no_hi (by omega), r0] at this
            exact this
          have pj : f_Op_part (nI j) (nI (szV (z_gI m 10) (z_gI m 16))) k' = some (z_gM m 0 j &&& mk (szV (z_gI m 10) (z_gI m 16))) := by
            have := K_part (k := k') (j := j) (n := szV (z_gI m 10) (z_gI m 16)) hj hz.1 hz.2
            rw [no_hi (by omega), EQn_r hp.1.1 hj] at this
            exact this
          obtain ⟨k4, m4, w1, w2, w3, w4, w5'⟩ := wA (j := 0) hp.1 (by decide) hz.1 hz.2 (em_r _ (z_gM m 0 j &&& mk (szV (z_gI m 10) (z_gI m 16))))
          obtain ⟨k5, m5, u1, u2, u3, _⟩ := wA w3 hj hz.1 hz.2 (em_r _ (z_gM m 0 0 &&& mk (szV (z_gI m 10) (z_gI m 16))))
          have y1' : f_De_registerO k4 = some (nI j) := by
            rw [← y1]
            unfold f_De_registerO f_De_extension k_De_extension_15
            rw [fr_I w4 6 (by decide), fr_I w4 11 (by decide)]
          have w1' : f_Op_putPart 0 (z_gM m 0 j &&& mk (szV (z_gI m 10) (z_gI m 16))) (nI (szV (z_gI m 10) (z_gI m 16))) k' = some k4 := w1
          have w2' : f_Mo_put8 0 (nI (szV (z_gI m 10) (z_gI m 16))) (z_gM m 0 j &&& mk (szV (z_gI m 10) (z_gI m 16))) m = some m4 := w2
          rw [K_sizeV, po_bs2, w6, w5, p0, po_bs2, y1, po_bs2, pj, po_bs2, w1', po_bs2, y1', po_bs2, w2', po_bs2, u2, u1]
          exact fin u3
        by_cases c144 : n = 144
        · rw [if_pos (f6.mpr c144)]
          have hb : f_De_hasB k' = some (if (z_gI k' 6 &&& (1 : Int32)) = 0 then 0 else 1) := by
            unfold f_De_hasB k_De_hasB_14
            split <;> rfl
          have cb : ¬ (z_gI k' 6 &&& (1 : Int32)) = 0 := fun x => c0 (hB.mpr ⟨c144, by rw [hb, if_pos x]⟩)
          rw [hb, if_neg cb, po_bs2, if_neg (by decide)]
          exact tail
        · rw [if_neg (fun x => c144 (f6.mp x))]
          exact tail
theorem fl_x : ∀ c p h z s d o : Bool, (fwB c p h z s d o ^^^ (1 : Int32)) = fwB (!c) p h z s d o ∧ (fwB c p h z s d o &&& (-2 : Int32)) = fwB false p h z s d o ∧ (fwB c p h z s d o ||| (1 : Int32)) = fwB true p h z s d o ∧ (fwB c p h z s d o &&& (-1025 : Int32)) = fwB c p h z s false o ∧ (fwB c p h z s d o ||| (1024 : Int32)) = fwB c p h z s true o := by decide +kernel
theorem fl_1 {k m : z_Sg} (h : EQ k m) {v : Int32} {b : Bool} (hv : v = fwB b (fb (z_gN m 1) 1) (fb (z_gN m 1) 2) (fb (z_gN m 1) 3) (fb (z_gN m 1) 4) (fb (z_gN m 1) 5) (fb (z_gN m 1) 6)) : EQ (z_sI k 0 v) (z_sN m 1 0 (b2i b)) := by
  refine EQ_FU h ⟨fr_sI fr_0 (by decide), fr_sN fr_0 (by decide), ?_⟩
  show v = _
  rw [hv]
  exact (fw_of (f := z_gN (z_sN m 1 0 (b2i b)) 1) (c := b) (fb_b (b := b) rfl) rfl rfl rfl rfl rfl rfl).symm
theorem fl_5 {k m : z_Sg} (h : EQ k m) {v : Int32} {b : Bool} (hv : v = fwB (fb (z_gN m 1) 0) (fb (z_gN m 1) 1) (fb (z_gN m 1) 2) (fb (z_gN m 1) 3) (fb (z_gN m 1) 4) b (fb (z_gN m 1) 6)) : EQ (z_sI k 0 v) (z_sN m 1 5 (b2i b)) := by
  refine EQ_FU h ⟨fr_sI fr_0 (by decide), fr_sN fr_0 (by decide), ?_⟩
  show v = _
  rw [hv]
  exact (fw_of (f := z_gN (z_sN m 1 5 (b2i b)) 1) (d := b) rfl rfl rfl rfl rfl (fb_b (b := b) rfl) rfl).symm
theorem g_flag {k0 k m : z_Sg} {n : Nat} (hc : n = 245 ∨ n = 248 ∨ n = 249) (h : TQ (nI n) k0 k m) (hg : z_gL m 7 = z_gL m 0 + (z_gI m 6).toInt64) : z_r k0 ((k_De_decode_43 (-1) 1 k).bind S1) ((k_Mo_first_285 (nI n) m).bind (fun o => some (.inr o))) FQQ := by
  have gen : ∀ n, n = 245 ∨ n = 248 ∨ n = 249 → n < 256 ∧ flE n = true ∧ srE n = true ∧ onE n = true ∧ (!(decide (n / 8 = 57)) && !(decide (n = 246)) && !(decide (n = 247)) = true) := by
    rintro n (rfl | rfl | rfl) <;> decide
  obtain ⟨n1, n2, n3, n4, n5⟩ := gen n hc
  refine run_a (by omega) n5 h hg (fun k' hp ho => ?_)
  refine ex_1 n1 n2 n3 ho ?_
  rw [on_215 n1 n4 ho]
  have hf := hp.1.2.1
  rw [fw_B] at hf
  obtain ⟨l1, l2, l3, l4, l5⟩ := fl_x (fb (z_gN m 1) 0) (fb (z_gN m 1) 1) (fb (z_gN m 1) 2) (fb (z_gN m 1) 3) (fb (z_gN m 1) 4) (fb (z_gN m 1) 5) (fb (z_gN m 1) 6)
  rcases hc with rfl | rfl | rfl
  · have ee : ∀ x, f_On_executeSingle x k' = some (z_sI k' 0 ((z_gI k' 0) ^^^ (1 : Int32))) := by
      intro x
      unfold f_On_executeSingle
      rw [ho]; rfl
    rw [ee]
    have em' : k_Mo_first_285 (nI 245) m = some (z_sN m 1 0 (b2i (!(fb (z_gN m 1) 0)))) := by
      unfold k_Mo_first_285 k_Mo_first_326
      rw [if_pos (show nI 245 = (245 : Int32) from rfl), if_neg (show ¬ z_bad (0 : Int32) 7 by decide)]
      show (if z_gN m 1 0 = 0 then _ else _) = _
      unfold fb
      by_cases h0 : z_gN m 1 0 = 0
      · rw [if_pos h0, decide_eq_false (fun x => x h0)]; rfl
      · rw [if_neg h0, decide_eq_true h0]; rfl
    rw [em']
    exact fin1 (fl_1 hp.1 (by rw [hf, l1]))
  · have ee : ∀ x, f_On_executeSingle x k' = some (z_sI k' 0 ((z_gI k' 0) &&& (-2 : Int32))) := by
      intro x
      unfold f_On_executeSingle
      rw [ho]; rfl
    rw [ee]
    exact fin1 (fl_1 (b := false) hp.1 (by rw [hf, l2]))
  · have ee : ∀ x, f_On_executeSingle x k' = some (z_sI k' 0 ((z_gI k' 0) ||| (1 : Int32))) := by
      intro x
      unfold f_On_executeSingle
      rw [ho]; rfl
    rw [ee]
    exact fin1 (fl_1 (b := true) hp.1 (by rw [hf, l3]))
theorem g_down {k0 k m : z_Sg} {n : Nat} (hc : n = 252 ∨ n = 253) (h : TQ (nI n) k0 k m) (hg : z_gL m 7 = z_gL m 0 + (z_gI m 6).toInt64) : z_r k0 ((k_De_decode_43 (-1) 1 k).bind S1) ((k_Mo_first_344 (nI n) m).bind (fun o => some (.inr o))) FQQ := by
  have gen : ∀ n, n = 252 ∨ n = 253 → n < 256 ∧ flE n = true ∧ srE n = true ∧ onE n = true ∧ (!(decide (n / 8 = 57)) && !(decide (n = 246)) && !(decide (n = 247)) = true) := by
    rintro n (rfl | rfl) <;> decide
  obtain ⟨n1, n2, n3, n4, n5⟩ := gen n hc
  refine run_a (by omega) n5 h hg (fun k' hp ho => ?_)
  refine ex_1 n1 n2 n3 ho ?_
  rw [on_215 n1 n4 ho]
  have hf := hp.1.2.1
  rw [fw_B] at hf
  obtain ⟨l1, l2, l3, l4, l5⟩ := fl_x (fb (z_gN m 1) 0) (fb (z_gN m 1) 1) (fb (z_gN m 1) 2) (fb (z_gN m 1) 3) (fb (z_gN m 1) 4) (fb (z_gN m 1) 5) (fb (z_gN m 1) 6)
  rcases hc with rfl | rfl
  · have ee : ∀ x, f_On_executeSingle x k' = some (z_sI k' 0 ((z_gI k' 0) &&& (-1025 : Int32))) := by
      intro x
      unfold f_On_executeSingle
      rw [ho]; rfl
    rw [ee]
    exact fin1 (fl_5 (b := false) hp.1 (by rw [hf, l4]))
  · have ee : ∀ x, f_On_executeSingle x k' = some (z_sI k' 0 ((z_gI k' 0) ||| (1024 : Int32))) := by
      intro x
      unfold f_On_executeSingle
      rw [ho]; rfl
    rw [ee]
    exact fin1 (fl_5 (b := true) hp.1 (by rw [hf, l5]))
def bsw (v : Int64) (s : Nat) (w : Int64) : Prop := ∀ b, b < 64 → tb w b = (decide (b < 8 * s) && tb v (8 * (s - 1 - b / 8) + b % 8))
theorem K_tb {s j : Nat} (hs : s ≤ 8) (v : Int64) (k : z_Sg) : ∀ (f i : Nat) (w : Int64), i ≤ s → s - i < f → bsw v i w → ∃ u, bsw v s u ∧ z_lo (fun ih30 (a : Int32 × Int64 × Int64 × Int32 × z_Sg) => kb_Tw_turnBytes_30 ih30 a.1 a.2.1 a.2.2.1 a.2.2.2.1 a.2.2.2.2) f (nI s, v, w, nI i, k) = (f_De_registerO k).bind (fun r5 => (f_Op_putPart r5 u (nI s) k).bind (fun r6 => some r6)) := by
  intro f
  induction f with
  | zero => intro i w _ h; omega
  | succ f ih =>
    intro i w hi hf hw
    have hle : nI s ≤ nI i ↔ s ≤ i := nI_leI (by omega) (by omega)
    have st : ∀ J, kb_Tw_turnBytes_30 J (nI s) v w (nI i) k = if s ≤ i then (f_De_registerO k).bind (fun r5 => (f_Op_putPart r5 w (nI s) k).bind (fun r6 => some r6)) else J (nI s, v, ((z_lshl w (8 : Int32)) ||| ((z_lushr v ((8 : Int32) * nI i)) &&& (255 : Int64))), nI (i + 1), k) := by
      intro J
      unfold kb_Tw_turnBytes_30
      by_cases c : s ≤ i
      · rw [if_pos (hle.mpr c), if_pos c]
      · rw [if_neg (fun x => c (hle.mp x)), po_nm2, po_nm2, nI_S, if_neg c]
    by_cases c : s ≤ i
    · have : i = s := by omega
      subst this
      refine ⟨w, hw, ?_⟩
      show kb_Tw_turnBytes_30 _ (nI i) v w (nI i) k = _
      rw [st, if_pos c]
    · obtain ⟨u, u1, u2⟩ := ih (i + 1) ((z_lshl w (8 : Int32)) ||| ((z_lushr v ((8 : Int32) * nI i)) &&& (255 : Int64))) (by omega) (by omega) (fun b hb => by
        rw [tb_or, show (8 : Int32) = nI 8 from rfl, tb_shl _ _ (by decide), tb_and, show nI 8 * nI i = nI (8 * i) from z_8k i (by omega), tb_ushr _ _ (by omega), tb_255, decide_eq_true hb]
        by_cases b8 : b < 8
        · rw [decide_eq_true b8, decide_eq_true (show b < 8 * (i + 1) by omega), show 8 * (i + 1 - 1 - b / 8) + b % 8 = b + 8 * i by omega]; simp
        · rw [decide_eq_false b8, hw (b - 8) (by omega)]
          by_cases bi : b - 8 < 8 * i
          · rw [decide_eq_true bi, decide_eq_true (show b < 8 * (i + 1) by omega), show 8 * (i - 1 - (b - 8) / 8) + (b - 8) % 8 = 8 * (i + 1 - 1 - b / 8) + b % 8 by omega]; simp
          · rw [decide_eq_false bi, decide_eq_false (show ¬ b < 8 * (i + 1) by omega)]; simp)
      refine ⟨u, u1, ?_⟩
      show kb_Tw_turnBytes_30 _ (nI s) v w (nI i) k = _
      rw [st, if_neg c]
      exact u2
theorem M_tb {s j : Nat} (h1 : 1 ≤ s) (hs : s ≤ 8) (hj : j < 16) (m : z_Sg) : ∀ (f i : Nat) (w : Int64), i ≤ s → s - i < f → (∀ b, b < 64 → tb w b = (decide (8 * (s - i) ≤ b ∧ b < 8 * s) && tb (z_gM m 0 j) (8 * (s - 1 - b / 8) + b % 8))) → ∃ u, bsw (z_gM m 0 j) s u ∧ z_lo (fun ih22 (a : Int32 × Int32 × Int64 × Int32 × z_Sg) => kb_Mo_turnRound_22 ih22 a.1 a.2.1 a.2.2.1 a.2.2.2.1 a.2.2.2.2) f (nI j, nI s, w, nI i, m) = (f_Mo_put8 (nI j) (nI s) u m).bind (fun r4 => some r4) := by
  intro f
  induction f with
  | zero => intro i w _ h; omega
  | succ f ih =>
    intro i w hi hf hw
    have hle : nI s ≤ nI i ↔ s ≤ i := nI_leI (by omega) (by omega)
    have st : ∀ J, kb_Mo_turnRound_22 J (nI j) (nI s) w (nI i) m = if s ≤ i then (f_Mo_put8 (nI j) (nI s) w m).bind (fun r4 => some r4) else J (nI j, nI s, (w ||| (z_lshl ((z_lushr (z_gM m 0 j) ((8 : Int32) * nI i)) &&& (255 : Int64)) ((8 : Int32) * ((nI s - (1 : Int32)) - nI i)))), nI (i + 1), m) := by
      intro J
      unfold kb_Mo_turnRound_22
      by_cases c : s ≤ i
      · rw [if_pos (hle.mpr c), if_pos c]
      · rw [if_neg (fun x => c (hle.mp x)), if_neg (in16 hj), po_nm2, po_nm2, nI_S, if_neg c, z_clp (by omega)]
    by_cases c : s ≤ i
    · have : i = s := by omega
      subst this
      refine ⟨w, fun b hb => ?_, ?_⟩
      · rw [hw b hb, Nat.sub_self]
        by_cases c2 : b < 8 * i
        · rw [decide_eq_true (show 8 * 0 ≤ b ∧ b < 8 * i by omega), decide_eq_true c2]
        · rw [decide_eq_false (show ¬ (8 * 0 ≤ b ∧ b < 8 * i) by omega), decide_eq_false c2]
      · show kb_Mo_turnRound_22 _ (nI j) (nI i) w (nI i) m = _
        rw [st, if_pos c]
    · have e8 : ∀ s, s ≤ 8 → ∀ i, i < s → (8 : Int32) * ((nI s - (1 : Int32)) - nI i) = nI (8 * (s - 1 - i)) := by decide +kernel
      obtain ⟨u, u1, u2⟩ := ih (i + 1) (w ||| (z_lshl ((z_lushr (z_gM m 0 j) ((8 : Int32) * nI i)) &&& (255 : Int64)) ((8 : Int32) * ((nI s - (1 : Int32)) - nI i)))) (by omega) (by omega) (fun b hb => by
        rw [e8 s hs i (by omega), tb_or, hw b hb, tb_shl _ _ (by omega), tb_and, show (8 : Int32) * nI i = nI (8 * i) from z_8k i (by omega), tb_ushr _ _ (by omega), tb_255, decide_eq_true hb]
        by_cases b1 : b < 8 * (s - 1 - i)
        · rw [decide_eq_true b1, decide_eq_false (show ¬ (8 * (s - i) ≤ b ∧ b < 8 * s) by omega), decide_eq_false (show ¬ (8 * (s - (i + 1)) ≤ b ∧ b < 8 * s) by omega)]; simp
        · rw [decide_eq_false b1]
          by_cases b2 : b < 8 * (s - i)
          · rw [decide_eq_false (show ¬ (8 * (s - i) ≤ b ∧ b < 8 * s) by omega), decide_eq_true (show (8 * (s - (i + 1)) ≤ b ∧ b < 8 * s) by omega), decide_eq_true (show b - 8 * (s - 1 - i) < 8 by omega), show b - 8 * (s - 1 - i) + 8 * i = 8 * (s - 1 - b / 8) + b % 8 by omega]; simp
          · by_cases b3 : b < 8 * s
            · rw [decide_eq_true (show (8 * (s - i) ≤ b ∧ b < 8 * s) by omega), decide_eq_true (show (8 * (s - (i + 1)) ≤ b ∧ b < 8 * s) by omega), decide_eq_false (show ¬ b - 8 * (s - 1 - i) < 8 by omega)]; simp
            · rw [decide_eq_false (show ¬ (8 * (s - i) ≤ b ∧ b < 8 * s) by omega), decide_eq_false (show ¬ (8 * (s - (i + 1)) ≤ b ∧ b < 8 * s) by omega), decide_eq_false (show ¬ b - 8 * (s - 1 - i) < 8 by omega)]; simp)
      refine ⟨u, u1, ?_⟩
      show kb_Mo_turnRound_22 _ (nI j) (nI s) w (nI i) m = _
      rw [st, if_neg c]
      exact u2
theorem g_bswap {k0 k m : z_Sg} {n : Nat} (h1 : 456 ≤ n) (h2 : n < 464) (h : TQ (nI n) k0 k m) (hg : z_gL m 7 = z_gL m 0 + (z_gI m 6).toInt64) : z_r k0 ((k_De_decode_43 (-1) 1 k).bind S1) ((f_Mo_plus (1 : Int32) m).bind (fun r40 => (z_eb (e_f_Mo_turnRound ((nI (n - 256) - ((nI (n - 256) / (8 : Int32)) * (8 : Int32))) + r40) m) (fun r41 => ((k_Mo_second_402 r41).bind (fun o => some (.inr o))))))) FQQ := by
  have fx : ∀ n, n < 464 → 456 ≤ n → flE n = true ∧ (nI n &&& (-8 : Int32)) = 456 ∧ ¬ nI n = 246 ∧ ¬ nI n = 247 := by decide +kernel
  obtain ⟨f1, f2, f3, f4⟩ := fx n h2 h1
  obtain ⟨x6, x5⟩ := TQ_x h
  have ho := TQ_o h
  have hz := szV_8 (z_gI m 10) (z_gI m 16)
  have hz2 := szV_in (z_gI m 10) (z_gI m 16)
  obtain ⟨e, j, hj, y1, y2, y3, y4, y5⟩ := rO (by omega) ho x6
  rw [y2, po_bs2, (o_mod (by omega)).2, show (n - 256) % 8 = n % 8 by omega, y3]
  unfold e_f_Mo_turnRound
  rw [M_wide, po_bs2]
  have hs : f_De_isToldInSize 1 k = some (if szV (z_gI m 10) (z_gI m 16) = 2 then 0 else 1) := by
    have e15 : k_De_isToldInSize_15 k = some (if szV (z_gI m 10) (z_gI m 16) = 2 then 0 else 1) := by
      unfold k_De_isToldInSize_15 k_De_isToldInSize_33
      rw [ho, if_pos f2, if_neg (by decide), K_sizeV, po_bs2, x6, x5]
      rcases hz2 with c | c | c <;> rw [c] <;> rfl
    unfold f_De_isToldInSize
    by_cases c : z_gI k 5 = 0
    · rw [if_pos c, e15]
    · rw [if_neg c, if_pos (by decide), e15]
  by_cases c2 : szV (z_gI m 10) (z_gI m 16) = 2
  · rw [if_pos c2] at hs
    rw [c2, if_pos (show nI 2 = (2 : Int32) from rfl), eb_eb]
    exact dec_sz h.2.1 h.1 (by decide) hs
  · rw [if_neg c2] at hs
    have c2' : ¬ nI (szV (z_gI m 10) (z_gI m 16)) = (2 : Int32) := by rcases hz2 with c | c | c <;> rw [c] at c2 ⊢ <;> first | exact absurd rfl c2 | decide
    rw [if_neg c2', eb_bind]
    refine dec_x0 h hg (by decide) (by decide) hs (bn_0 (by decide) (by rw [show z_gI (z_sI k 12 3) 11 = nI n from ho]; exact f3) (by rw [show z_gI (z_sI k 12 3) 11 = nI n from ho]; exact f4)) (fun k' hp _ _ => ?_)
    have ho' : z_gI k' 11 = nI n := hp.2.2.2.1
    refine ex_2 (by omega) (by omega) f1 ho' ?_
    have w6 := EQn_x hp.1.1
    have w5 := EQn_s hp.1.1
    have et : f_Tw_execute k' = (f_Tw_turnBytes k').bind k_Tw_execute_121 := by
      unfold f_Tw_execute
      rw [po_nm2, ho', tw_n (by omega) (by omega)]
      have c : ∀ n, n < 464 → 456 ≤ n → ¬ (nI (n - 256) &&& (-8 : Int32)) = 64 ∧ ¬ (nI (n - 256) &&& (-8 : Int32)) = 72 ∧ ¬ (nI (n - 256) &&& (-8 : Int32)) = 144 ∧ ¬ (nI (n - 256) &&& (-8 : Int32)) = 152 ∧ (nI (n - 256) &&& (-8 : Int32)) = 200 := by decide +kernel
      obtain ⟨d1, d2, d3, d4, d5⟩ := c n h2 h1
      rw [if_neg d1, if_neg d2, if_neg d3, if_neg d4, if_pos d5]
    obtain ⟨e', j', hj', y1', y2', y3', _, _⟩ := rO (by omega) ho' w6
    have ej : j' = j := by
      rw [y2] at y2'
      cases y2'
      rw [y3] at y3'
      have q : ∀ a, a < 16 → ∀ b, b < 16 → nI a = nI b → a = b := by decide +kernel
      exact (q _ hj _ hj' y3').symm
    subst ej
    rw [et]
    unfold f_Tw_turnBytes k_Tw_turnBytes_30 k_Mo_turnRound_22
    have pj := K_part (k := k') (j := j') (n := szV (z_gI m 10) (z_gI m 16)) hj hz.1 hz.2
    rw [no_hi (by omega), EQn_r hp.1.1 hj] at pj
    rw [K_sizeV, po_bs2, w6, w5, y1', po_bs2, pj, po_bs2]
    obtain ⟨u, u1, u2⟩ := K_tb (j := j') hz.2 (z_gM m 0 j' &&& mk (szV (z_gI m 10) (z_gI m 16))) k' 2000 0 0 (by omega) (by omega) (fun b hb => by rw [tb_0, decide_eq_false (by omega)]; rfl)
    obtain ⟨w, v1, v2⟩ := M_tb hz.1 hz.2 hj m 2000 0 0 (by omega) (by omega) (fun b hb => by rw [tb_0, decide_eq_false (by omega)]; rfl)
    have hem : em (szV (z_gI m 10) (z_gI m 16)) u w := fun b hb => by
      rw [u1 b (by omega), v1 b (by omega), tb_and, tb_mk hz.2 _ (by omega), decide_eq_true hb, decide_eq_true (show 8 * (szV (z_gI m 10) (z_gI m 16) - 1 - b / 8) + b % 8 < 8 * szV (z_gI m 10) (z_gI m 16) by omega), Bool.and_true]
    obtain ⟨k4, m4, a1, a2, a3, _⟩ := wA hp.1 hj hz.1 hz.2 hem
    have u2' := u2
    have v2' := v2
    rw [y1', po_bs2, a1, po_bs2] at u2'
    rw [a2, po_bs2] at v2'
    show z_r k0 (((z_lo _ 2000 (nI (szV (z_gI m 10) (z_gI m 16)), z_gM m 0 j' &&& mk (szV (z_gI m 10) (z_gI m 16)), 0, nI 0, k')).bind _).bind _) ((z_lo _ 2000 (nI j', nI (szV (z_gI m 10) (z_gI m 16)), 0, nI 0, m)).bind _) FQQ
    rw [u2', v2']
    exact fin2 a3
