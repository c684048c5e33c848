theorem src_r {β : Type} {k0 k m : z_Sg} (hk : KX k0 k) (hE : EQ k m) (h5 : z_gI m 5 = 0) {p : Int64} {st st' : Int32} {n : Nat} (hn : n ≤ 8) {K : Int32 × z_Sg → Option (Int32 × z_Sg)} {L : Int64 × z_Sg → Option (Sum z_Dd β)} {Q : z_Sg → β → Prop} (hd : ∀ (o : Int32 × z_Sg) (f : Int64) (c : Int32), ¬ o.1 = -1 → KF k0 o.2 f c → z_po (K o) (fun o' => ¬ o'.1 = -1 ∧ KF k0 o'.2 f c)) (ha : ∀ k1 m1 v, fr [] [18] [4] [] k k1 → fr [] [1] [3] [] m m1 → EQ k1 m1 → z_gI m1 5 = 0 → KX k0 k1 → v &&& mk n = v → (∀ k2, z_gM k2 1 = z_gM k1 1 → z_gM k2 4 = z_gM k1 4 → z_gI k2 18 = z_gI k1 18 → f_Sp_value_15 k2 = some v) → z_r k0 (K (-1, k1)) (L (v, m1)) Q) : z_r k0 ((f_Sp_find_15 p (nI n) 0 st k).bind K) (z_eb (e_f_Mo_load p (nI n) st' m) L) Q := by
  unfold e_f_Mo_load
  rw [eb_eb]
  refine r_b (find_rel_15 (KF_n hk) (EQ_Sim hE h5) hn) hd (fun k1 m1 hq => ?_)
  obtain ⟨q1, q2, q3, q4⟩ := hq
  have hE1 : EQ k1 m1 := EQ_of hE (EQn_k hE.1 q1 q2 (by decide) (by decide) (by decide) (by decide) (by decide) (by decide) (by decide)) q1 q2 (by decide) (by decide) (by decide)
  have h51 : z_gI m1 5 = 0 := by rw [fr_I q2 5 (by decide)]; exact h5
  rw [M_held hn, po_bs2]
  refine ha k1 m1 _ q1 q2 hE1 h51 (KX_fr hk q1 (by decide) (by decide) (by decide)) (asm_mk (fun k b hb => mB_8 _ _ b hb) hn) (fun k2 e1 e2 e3 => ?_)
  rw [K_value_15 hn (e3.trans q3), e1, e2]
  have hm := memW_0 hE1.1 h51
  congr 1
  refine asm_congr (fun i hi => ?_)
  rw [hm, (q4 i hi).1]
theorem gol_r {β : Type} {k0 k m : z_Sg} (hk : KX k0 k) (hE : EQ k m) (h5 : z_gI m 5 = 0) {p : Int64} {st st' : Int32} {n : Nat} (hn : n ≤ 8) {K : Int32 × z_Sg → Option (Int32 × z_Sg)} {L : Int64 × z_Sg → Option (Sum z_Dd β)} {Q : z_Sg → β → Prop} (hd : ∀ (o : Int32 × z_Sg) (f : Int64) (c : Int32), ¬ o.1 = -1 → KF k0 o.2 f c → z_po (K o) (fun o' => ¬ o'.1 = -1 ∧ KF k0 o'.2 f c)) (ha : ∀ k1 m1 v, fr [] [19] [5] [] k k1 → fr [] [1] [3] [] m m1 → EQ k1 m1 → z_gI m1 5 = 0 → KX k0 k1 → v &&& mk n = v → (∀ k2, z_gM k2 1 = z_gM k1 1 → z_gM k2 5 = z_gM k1 5 → z_gI k2 19 = z_gI k1 19 → f_Sp_value_17 k2 = some v) → z_r k0 (K (-1, k1)) (L (v, m1)) Q) : z_r k0 ((f_Sp_find_17 p (nI n) 0 st k).bind K) (z_eb (e_f_Mo_load p (nI n) st' m) L) Q := by
  unfold e_f_Mo_load
  rw [eb_eb]
  refine r_b (find_rel_17 (KF_n hk) (EQ_Sim hE h5) hn) hd (fun k1 m1 hq => ?_)
  obtain ⟨q1, q2, q3, q4⟩ := hq
  have hE1 : EQ k1 m1 := EQ_of hE (EQn_k hE.1 q1 q2 (by decide) (by decide) (by decide) (by decide) (by decide) (by decide) (by decide)) q1 q2 (by decide) (by decide) (by decide)
  have h51 : z_gI m1 5 = 0 := by rw [fr_I q2 5 (by decide)]; exact h5
  rw [M_held hn, po_bs2]
  refine ha k1 m1 _ q1 q2 hE1 h51 (KX_fr hk q1 (by decide) (by decide) (by decide)) (asm_mk (fun k b hb => mB_8 _ _ b hb) hn) (fun k2 e1 e2 e3 => ?_)
  rw [K_value_17 hn (e3.trans q3), e1, e2]
  have hm := memW_0 hE1.1 h51
  congr 1
  refine asm_congr (fun i hi => ?_)
  rw [hm, (q4 i hi).1]
theorem gol_w {β : Type} {k0 k m : z_Sg} (hk : KX k0 k) (hE : EQ k m) (h5 : z_gI m 5 = 0) {p : Int64} {st st' : Int32} {n : Nat} (hn : n ≤ 8) {K : Int32 × z_Sg → Option (Int32 × z_Sg)} {L : z_Sg → Option (Sum z_Dd β)} {Q : z_Sg → β → Prop} (hd : ∀ (o : Int32 × z_Sg) (f : Int64) (c : Int32), ¬ o.1 = -1 → KF k0 o.2 f c → z_po (K o) (fun o' => ¬ o'.1 = -1 ∧ KF k0 o'.2 f c)) (ha : ∀ k1 m1, fr [] [19] [5] [] k k1 → fr [] [1] [3] [] m m1 → EQ k1 m1 → (∀ v, ∃ k2 m2, f_Sp_put_17 v k1 = some k2 ∧ f_Mo_hold v (nI n) m1 = some m2 ∧ EQ k2 m2 ∧ fr [] [] [1] [] k1 k2 ∧ fr [] [5] [2] [3] m1 m2) → z_r k0 (K (-1, k1)) (L m1) Q) : z_r k0 ((f_Sp_find_17 p (nI n) 1 st k).bind K) (z_eb (e_f_Mo_lookUp p (nI n) 1 st' m) L) Q := by
  refine r_b (find_rel_17 (KF_n hk) (EQ_Sim hE h5) hn) hd (fun k1 m1 hq => ?_)
  obtain ⟨q1, q2, q3, q4⟩ := hq
  have hE1 : EQ k1 m1 := EQ_of hE (EQn_k hE.1 q1 q2 (by decide) (by decide) (by decide) (by decide) (by decide) (by decide) (by decide)) q1 q2 (by decide) (by decide) (by decide)
  have h51 : z_gI m1 5 = 0 := by rw [fr_I q2 5 (by decide)]; exact h5
  refine ha k1 m1 q1 q2 hE1 (fun v => ?_)
  obtain ⟨k2, p1, p2, p3⟩ := K_put_17 hn q3 v
  obtain ⟨m2, y1, y2, y3, y4⟩ := M_hold hn (EQn_a hE1.1) h51 v
  refine ⟨k2, m2, p1, y1, EQ_of hE1 (EQn_hold hE1.1 h51 p2 y2 (by decide) (by decide) rfl (fun i hi => ?_) hn y3 (A := z_gM k1 5) (B := fun i => (z_lushr v (nI (8 * i))).toInt32) p3 (fun j hj => ⟨?_, ?_, ?_⟩)) p2 y2 (by decide) (by decide) (by decide), p2, y2⟩
  · rw [fr_M p2 0 (by decide), fr_M y2 0 (by decide)]; exact EQn_r hE1.1 hi
  · rw [(y4 j hj).1]; exact (q4 j hj).1
  · rw [(y4 j hj).2]; exact by_em (em_r n v) hj hn
  · rw [(y4 j hj).1]; exact (q4 j hj).2
theorem d_fl (f : Nat → Int32) : ((fw f &&& (1024 : Int32)) = 0) ↔ fb f 5 = false := by
  have : ∀ c p h z s d o : Bool, ((fwB c p h z s d o &&& (1024 : Int32)) = 0) ↔ d = false := by decide +kernel
  rw [fw_B]; exact this _ _ _ _ _ _ _
theorem fb_0 (f : Nat → Int32) (j : Nat) : (f j = 0) ↔ fb f j = false := by
  unfold fb
  by_cases h : f j = 0
  · rw [decide_eq_false (fun x => x h)]; exact ⟨fun _ => rfl, fun _ => h⟩
  · rw [decide_eq_true h]; exact ⟨fun x => absurd x h, fun x => by cases x⟩
def rp (q : Int32) : Prop := q = 0 ∨ q = 242 ∨ q = 243
theorem str_t {k0 k m : z_Sg} (hE : EQ k m) (src gol cmp : Bool) (s : Nat) (hrp : rp (z_gI m 11)) (hz : cmp = true → z_gN m 1 3 = b2i (fb (z_gN m 1) 3)) {kind : Int32} (hkc : (kind = 166 ∨ kind = 174) ↔ cmp = true) {x2 : Int32} (hx2 : x2 = 0 ↔ z_gI m 11 = 0) : z_r k0 (((if ((z_gI k 0) &&& (1024 : Int32)) = 0 then (k_Sr_executeOnce_193 (b2i src) (b2i gol) ((nI s).toInt64) k) else (k_Sr_executeOnce_193 (b2i src) (b2i gol) ((-nI s).toInt64) k)).bind (fun r9 => if r9.1 = (-1 : Int32) then (if x2 = 0 then (k_Sr_execute_148 r9.1 r9.2) else (if z_bad (1 : Int32) 16 then none else (if z_bad (1 : Int32) 16 then none else (z_nm (z_sM r9.2 0 (1 : Int32).toNatClampNeg ((z_gM r9.2 0 (1 : Int32).toNatClampNeg) - (1 : Int64))) (fun q14 => (f_Sr_goesOn kind q14).bind (fun r15 => if r15 = 0 then (k_Sr_execute_148 r9.1 q14) else (z_nm (z_sL q14 10 (z_gL q14 0)) (fun q17 => k_Sr_execute_148 r9.1 q17)))))))) else (k_Sr_execute_148 r9.1 r9.2))).bind S3) ((k_Mo_string_177 (nI s) (b2i src) (b2i cmp) (b2i gol) m).bind (fun o => some (.inr o))) FQQ := by
  have b1 : ¬ z_bad (1 : Int32) 16 := by decide
  have b6 : ¬ z_bad (6 : Int32) 16 := by decide
  have b7 : ¬ z_bad (7 : Int32) 16 := by decide
  generalize hd : (if fb (z_gN m 1) 5 then (-nI s).toInt64 else (nI s).toInt64) = d
  have eK : (if ((z_gI k 0) &&& (1024 : Int32)) = 0 then (k_Sr_executeOnce_193 (b2i src) (b2i gol) ((nI s).toInt64) k) else (k_Sr_executeOnce_193 (b2i src) (b2i gol) ((-nI s).toInt64) k)) = some (-1, z_sM (z_sM k 0 6 (z_gM k 0 6 + (if src then d else 0))) 0 7 (z_gM k 0 7 + (if gol then d else 0))) := by
    have e193 : ∀ d', k_Sr_executeOnce_193 (b2i src) (b2i gol) d' k = some (-1, z_sM (z_sM k 0 6 (z_gM k 0 6 + (if src then d' else 0))) 0 7 (z_gM k 0 7 + (if gol then d' else 0))) := by
      intro d'
      unfold k_Sr_executeOnce_193 k_Sr_executeOnce_216 k_Sr_executeOnce_240
      cases src <;> cases gol <;> rfl
    rw [hE.2.1]
    cases hh : fb (z_gN m 1) 5 with
    | false => rw [if_pos ((d_fl _).mpr hh), e193]; rw [hh] at hd; rw [← hd]; rfl
    | true => rw [if_neg (fun x => by rw [(d_fl _).mp x] at hh; cases hh), e193]; rw [hh] at hd; rw [← hd]; rfl
  have eM : k_Mo_string_177 (nI s) (b2i src) (b2i cmp) (b2i gol) m = k_Mo_string_235 (b2i cmp) 7 (z_gM m 0 7) (if gol then d else 0) (z_sM m 0 6 (z_gM m 0 6 + (if src then d else 0))) := by
    have e194 : ∀ d', k_Mo_string_194 (b2i src) (b2i cmp) (b2i gol) d' m = k_Mo_string_235 (b2i cmp) 7 (z_gM m 0 7) (if gol then d' else 0) (z_sM m 0 6 (z_gM m 0 6 + (if src then d' else 0))) := by
      intro d'
      unfold k_Mo_string_194 k_Mo_string_214
      cases src <;> cases gol <;> rfl
    unfold k_Mo_string_177
    rw [if_neg (show ¬ z_bad (5 : Int32) 7 by decide)]
    show (if z_gN m 1 5 = 0 then _ else _) = _
    cases hh : fb (z_gN m 1) 5 with
    | false => rw [if_pos ((fb_0 _ 5).mpr hh), e194]; rw [hh] at hd; rw [← hd]; rfl
    | true => rw [if_neg (fun x => by rw [(fb_0 _ 5).mp x] at hh; cases hh), e194]; rw [hh] at hd; rw [← hd]; rfl
  have r6 : z_gM k 0 6 = z_gM m 0 6 := EQn_r hE.1 (by decide)
  have r7 : z_gM k 0 7 = z_gM m 0 7 := EQn_r hE.1 (by decide)
  have r1 : z_gM k 0 1 = z_gM m 0 1 := EQn_r hE.1 (by decide)
  rw [eK, eM, po_bs2, if_pos rfl, r6, r7]
  unfold k_Mo_string_235
  rw [if_neg b7, po_nm2]
  have hE2 := EQ_reg (EQ_reg hE 6 (z_gM m 0 6 + (if src then d else 0))) 7 (z_gM m 0 7 + (if gol then d else 0))
  have hg : ∀ q : z_Sg, z_gI (z_sM (z_sM m 0 6 (z_gM m 0 6 + (if src then d else 0))) 0 7 (z_gM m 0 7 + (if gol then d else 0))) 11 = z_gI m 11 := fun _ => rfl
  show z_r k0 _ ((if z_gI m 11 = 0 then _ else _ : Option z_Sg).bind _) FQQ
  by_cases c0 : z_gI m 11 = 0
  · rw [if_pos (hx2.mpr c0), if_pos c0]
    exact fin hE2
  · rw [if_neg (fun x => c0 (hx2.mp x)), if_neg c0, if_neg b1, if_neg b1, if_neg b1, if_neg b1, po_nm2, po_nm2, if_neg b1]
    have hE3 := EQ_reg hE2 1 (z_gM m 0 1 - 1)
    have ek : (z_sM (z_sM (z_sM k 0 6 (z_gM m 0 6 + (if src then d else 0))) 0 7 (z_gM m 0 7 + (if gol then d else 0))) 0 1 (z_gM m 0 1 - 1)) = (z_sM (z_sM (z_sM k 0 6 (z_gM m 0 6 + (if src then d else 0))) 0 7 (z_gM m 0 7 + (if gol then d else 0))) 0 1 (z_gM k 0 1 - 1)) := by rw [r1]
    generalize hkk : (z_sM (z_sM (z_sM k 0 6 (z_gM m 0 6 + (if src then d else 0))) 0 7 (z_gM m 0 7 + (if gol then d else 0))) 0 1 (z_gM m 0 1 - 1)) = kk at hE3 ek
    generalize hmm : (z_sM (z_sM (z_sM m 0 6 (z_gM m 0 6 + (if src then d else 0))) 0 7 (z_gM m 0 7 + (if gol then d else 0))) 0 1 (z_gM m 0 1 - 1)) = mm at hE3
    have g1 : z_gM mm 0 1 = z_gM m 0 1 - 1 := by rw [← hmm]; rfl
    have g11 : z_gI mm 11 = z_gI m 11 := by rw [← hmm]; rfl
    have gn : z_gN mm 1 = z_gN m 1 := by rw [← hmm]; rfl
    have key : ∃ go : Bool, f_Sr_goesOn kind kk = some (b2i go) ∧ (if z_bad (1 : Int32) 16 then none else (if (z_gM mm 0 (1 : Int32).toNatClampNeg) = (0 : Int64) then (k_Mo_string_295 mm) else (if b2i cmp = 0 then (k_Mo_string_299 mm) else (if z_bad (3 : Int32) 7 then none else (if (z_gI mm 11) = (242 : Int32) then (k_Mo_string_292 (z_gN mm 1 (3 : Int32).toNatClampNeg) (1 : Int32) mm) else (k_Mo_string_292 (z_gN mm 1 (3 : Int32).toNatClampNeg) (0 : Int32) mm)))))) = k_Mo_string_300 (b2i (!go)) mm := by
      have q1 : z_gM kk 0 1 = z_gM mm 0 1 := EQn_r hE3.1 (by decide)
      have q10 : z_gI kk 10 = z_gI mm 11 := EQn_p hE3.1
      unfold f_Sr_goesOn
      rw [if_neg b1, if_neg b1]
      show ∃ go : Bool, (if z_gM kk 0 1 = 0 then _ else _) = _ ∧ (if z_gM mm 0 1 = 0 then _ else _) = _
      rw [q1]
      by_cases cz : z_gM mm 0 1 = 0
      · rw [if_pos cz, if_pos cz]
        exact ⟨false, rfl, rfl⟩
      · rw [if_neg cz, if_neg cz]
        cases hcm : cmp with
        | false =>
          have n1 : ¬ kind = 166 := fun x => by have := hkc.mp (Or.inl x); rw [hcm] at this; cases this
          have n2 : ¬ kind = 174 := fun x => by have := hkc.mp (Or.inr x); rw [hcm] at this; cases this
          rw [if_neg n1, if_neg n2, if_pos (show b2i false = 0 from rfl)]
          refine ⟨true, ?_, rfl⟩
          unfold k_Sr_goesOn_35 k_Sr_goesOn_54
          split <;> rfl
        | true =>
          have hk35 : (if kind = (166 : Int32) then (k_Sr_goesOn_30 kk) else (if kind = (174 : Int32) then (k_Sr_goesOn_30 kk) else (k_Sr_goesOn_35 (0 : Int32) kk))) = k_Sr_goesOn_35 1 kk := by
            rcases hkc.mpr hcm with e | e
            · rw [if_pos e]; rfl
            · rw [if_neg (by rw [e]; decide), if_pos e]; rfl
          rw [hk35, if_neg (show ¬ b2i true = 0 by decide), if_neg (show ¬ z_bad (3 : Int32) 7 by decide)]
          have zz : z_gN mm 1 3 = b2i (fb (z_gN m 1) 3) := by rw [gn]; exact hz hcm
          have k35 : k_Sr_goesOn_35 1 kk = k_Sr_goesOn_54 1 (b2i (fb (z_gN m 1) 3)) kk := by
            unfold k_Sr_goesOn_35
            rw [hE3.2.1, gn]
            cases hh : fb (z_gN m 1) 3 with
            | false => rw [if_pos ((z_fl _).mpr hh)]; rfl
            | true => rw [if_neg (fun x => by rw [(z_fl _).mp x] at hh; cases hh)]; rfl
          rw [k35]
          show ∃ go : Bool, _ ∧ (if z_gI mm 11 = 242 then k_Mo_string_292 (z_gN mm 1 3) 1 mm else k_Mo_string_292 (z_gN mm 1 3) 0 mm) = _
          rw [zz]
          unfold k_Sr_goesOn_54
          rw [if_neg (by decide), q10, g11]
          rcases hrp with e | e | e
          · exact absurd e c0
          · rw [e, if_neg (by decide), if_pos rfl]
            cases fb (z_gN m 1) 3
            · exact ⟨true, rfl, rfl⟩
            · exact ⟨false, rfl, rfl⟩
          · rw [e, if_pos rfl, if_neg (by decide)]
            cases fb (z_gN m 1) 3
            · exact ⟨false, rfl, rfl⟩
            · exact ⟨true, rfl, rfl⟩
    obtain ⟨go, y1, y2⟩ := key
    rw [if_neg b1] at y2
    show z_r k0 (((f_Sr_goesOn kind (z_sM (z_sM (z_sM k 0 6 (z_gM m 0 6 + (if src then d else 0))) 0 7 (z_gM m 0 7 + (if gol then d else 0))) 0 1 (z_gM k 0 1 - 1))).bind (fun r15 => if r15 = 0 then (k_Sr_execute_148 (-1) (z_sM (z_sM (z_sM k 0 6 (z_gM m 0 6 + (if src then d else 0))) 0 7 (z_gM m 0 7 + (if gol then d else 0))) 0 1 (z_gM k 0 1 - 1))) else (z_nm (z_sL (z_sM (z_sM (z_sM k 0 6 (z_gM m 0 6 + (if src then d else 0))) 0 7 (z_gM m 0 7 + (if gol then d else 0))) 0 1 (z_gM k 0 1 - 1)) 10 (z_gL (z_sM (z_sM (z_sM k 0 6 (z_gM m 0 6 + (if src then d else 0))) 0 7 (z_gM m 0 7 + (if gol then d else 0))) 0 1 (z_gM k 0 1 - 1)) 0)) (fun q17 => k_Sr_execute_148 (-1) q17)))).bind S3) _ FQQ
    rw [← ek, y1, po_bs2]
    refine r_eqM (y' := (k_Mo_string_300 (b2i (!go)) mm).bind (fun o => some (.inr o))) ?_ ?_
    · rw [← y2, ← hmm]; rfl
    · cases go with
      | false =>
        rw [if_pos (show b2i false = 0 from rfl)]
        exact fin hE3
      | true =>
        rw [if_neg (show ¬ b2i true = 0 by decide)]
        have l0 : z_gL kk 0 = z_gL mm 0 := EQn_L hE3.1 (by decide)
        have := fin (k0 := k0) (EQ_jump hE3 (z_gL kk 0))
        rw [l0] at this
        show z_r k0 (S3 (-1, z_sL kk 10 (z_gL kk 0))) (some (.inr (z_sL mm 7 (z_gL mm 0)))) FQQ
        rw [l0]
        exact this
