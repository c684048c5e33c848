abbrev strC (kind x2 : Int32) : Int32 × z_Sg → Option (Int32 × z_Sg) := fun r9 => if r9.1 = (-1 : Int32) then (if x2 = 0 then (k_Sr_execute_148 r9.1 r9.2) else (if z_bad (1 : Int32) 16 then none else (if z_bad (1 : Int32) 16 then none else (z_nm (z_sM r9.2 0 (1 : Int32).toNatClampNeg ((z_gM r9.2 0 (1 : Int32).toNatClampNeg) - (1 : Int64))) (fun q14 => (f_Sr_goesOn kind q14).bind (fun r15 => if r15 = 0 then (k_Sr_execute_148 r9.1 q14) else (z_nm (z_sL q14 10 (z_gL q14 0)) (fun q17 => k_Sr_execute_148 r9.1 q17)))))))) else (k_Sr_execute_148 r9.1 r9.2)
theorem bnd3 {α β γ δ : Type} (x : Option α) (f : α → Option β) (g : β → Option γ) (h : γ → Option δ) : ((x.bind f).bind g).bind h = x.bind (fun a => ((f a).bind g).bind h) := by cases x <;> rfl
theorem strC_no {k0 : z_Sg} (kind x2 : Int32) (o : Int32 × z_Sg) (f : Int64) (c : Int32) (h1 : ¬ o.1 = -1) (h2 : KF k0 o.2 f c) : z_po ((strC kind x2 o).bind S3) (fun o' => ¬ o'.1 = -1 ∧ KF k0 o'.2 f c) := by
  show z_po ((if o.1 = (-1 : Int32) then _ else (k_Sr_execute_148 o.1 o.2)).bind S3) _
  rw [if_neg h1]
  exact S3_no _ f c h1 h2
theorem f133_no {k0 : z_Sg} (kind x2 : Int32) (a b cc d : Int32) (o : Int32 × z_Sg) (f : Int64) (c : Int32) (h1 : ¬ o.1 = -1) (h2 : KF k0 o.2 f c) : z_po (((k_Sr_executeOnce_133 a b cc d o.1 o.2).bind (strC kind x2)).bind S3) (fun o' => ¬ o'.1 = -1 ∧ KF k0 o'.2 f c) := by
  unfold k_Sr_executeOnce_133
  rw [if_neg h1, po_bs2]
  exact strC_no kind x2 _ f c h1 h2
theorem f91_no {k0 : z_Sg} (kind x2 : Int32) (a b cc d e : Int32) (o : Int32 × z_Sg) (f : Int64) (c : Int32) (h1 : ¬ o.1 = -1) (h2 : KF k0 o.2 f c) : z_po (((k_Sr_executeOnce_91 a b cc d e o.1 o.2).bind (strC kind x2)).bind S3) (fun o' => ¬ o'.1 = -1 ∧ KF k0 o'.2 f c) := by
  unfold k_Sr_executeOnce_91
  by_cases h : d = 0
  · rw [if_pos h]
    exact f133_no kind x2 a b cc d o f c h1 h2
  · rw [if_neg h, if_neg h1]
    exact f133_no kind x2 a b cc d o f c h1 h2
theorem s167 {k0 k m : z_Sg} (hE : EQ k m) (src gol cmp : Bool) (s : Nat) (hrp : rp (z_gI m 11)) (hz : cmp = true → z_gN m 1 3 = b2i (fb (z_gN m 1) 3)) {kind : Int32} (hkc : (kind = 166 ∨ kind = 174) ↔ cmp = true) {x2 : Int32} (hx2 : x2 = 0 ↔ z_gI m 11 = 0) {v : Int64} {k1 : z_Sg} (hu : f_Sr_use kind v (nI s) k1 = some k) {y : Option (Sum z_Dd z_Sg)} (hy : y = (k_Mo_string_177 (nI s) (b2i src) (b2i cmp) (b2i gol) m).bind (fun o => some (.inr o))) : z_r k0 (((k_Sr_executeOnce_167 (nI s) (b2i src) (b2i gol) kind v k1).bind (strC kind x2)).bind S3) y FQQ := by
  unfold k_Sr_executeOnce_167
  rw [hu, po_bs2, hy]
  exact str_t hE src gol cmp s hrp hz hkc hx2
theorem once_r {k0 k m : z_Sg} (hk : KX k0 k) (hE : EQ k m) (h5 : z_gI m 5 = 0) (hrp : rp (z_gI m 11)) {s : Nat} (s1 : 1 ≤ s) (s8 : s ≤ 8) {kind : Int32} (hkd : kind = 164 ∨ kind = 166 ∨ kind = 170 ∨ kind = 172 ∨ kind = 174) {x2 : Int32} (hx2 : x2 = 0 ↔ z_gI m 11 = 0) : z_r k0 (((f_Sr_executeOnce kind (nI s) k).bind (strC kind x2)).bind S3) (e_k_Mo_string_19 kind (nI s) m) FQQ := by
  have b6 : ¬ z_bad (6 : Int32) 16 := by decide
  have b7 : ¬ z_bad (7 : Int32) 16 := by decide
  have r6 : z_gM k 0 6 = z_gM m 0 6 := EQn_r hE.1 (by decide)
  have r7 : z_gM k 0 7 = z_gM m 0 7 := EQn_r hE.1 (by decide)
  rcases hkd with rfl | rfl | rfl | rfl | rfl
  ·
    show z_r k0 (((if z_bad (6 : Int32) 16 then none else ((f_Sp_find_15 (z_gM k 0 6) (nI s) (0 : Int32) (0 : Int32) k).bind (fun r25 => k_Sr_executeOnce_91 164 (nI s) (b2i true) (b2i true) 1 r25.1 r25.2))).bind (strC 164 x2)).bind S3) (if z_bad (6 : Int32) 16 then none else (z_eb (e_f_Mo_load (z_gM m 0 6) (nI s) (0 : Int32) m) (fun r39 => (e_k_Mo_string_107 (nI s) (b2i true) (b2i false) (b2i true) r39.1 r39.2)))) FQQ
    rw [if_neg b6, if_neg b6, r6, bnd3]
    refine src_r hk hE h5 s8 (fun o f c g1 g2 => f91_no 164 x2 _ _ _ _ _ o f c g1 g2) (fun k1 m1 v f1 f2 hE1 h51 hk1 v1 v2 => ?_)
    have r7' : z_gM k1 0 7 = z_gM m1 0 7 := EQn_r hE1.1 (by decide)
    show z_r k0 (((if z_bad (7 : Int32) 16 then none else ((f_Sp_find_17 (z_gM k1 0 7) (nI s) 1 (0 : Int32) k1).bind (fun r23 => k_Sr_executeOnce_133 164 (nI s) (b2i true) (b2i true) r23.1 r23.2))).bind (strC 164 x2)).bind S3) (if z_bad (7 : Int32) 16 then none else (z_eb (e_f_Mo_lookUp (z_gM m1 0 7) (nI s) (1 : Int32) (0 : Int32) m1) (fun r33 => ((f_Mo_hold v (nI s) r33).bind (fun r34 => ((k_Mo_string_177 (nI s) (b2i true) (b2i false) (b2i true) r34).bind (fun o => some (.inr o)))))))) FQQ
    rw [if_neg b7, if_neg b7, r7', bnd3]
    refine gol_w hk1 hE1 h51 s8 (fun o f c g1 g2 => f133_no 164 x2 _ _ _ _ o f c g1 g2) (fun k2 m2 q1 q2 hE2 hput => ?_)
    obtain ⟨k3, m3, p1, p2, p3, p4, p5⟩ := hput v
    show z_r k0 ((((f_Sp_value_15 k2).bind (fun r19 => k_Sr_executeOnce_167 (nI s) (b2i true) (b2i true) 164 r19 k2)).bind (strC 164 x2)).bind S3) _ FQQ
    rw [v2 k2 (fr_M q1 1 (by decide)) (fr_M q1 4 (by decide)) (fr_I q1 18 (by decide)), po_bs2]
    have e11 : z_gI m3 11 = z_gI m 11 := by rw [fr_I p5 11 (by decide), fr_I q2 11 (by decide), fr_I f2 11 (by decide)]
    refine s167 (k := k3) (m := m3) p3 true true false s (by rw [e11]; exact hrp) (fun x => by cases x) (by decide) (by rw [e11]; exact hx2) ?_ ?_
    · unfold f_Sr_use
      rw [if_neg (by decide), if_neg (by decide), if_neg (by decide), p1]; rfl
    · rw [p2]; rfl
  ·
    show z_r k0 (((if z_bad (6 : Int32) 16 then none else ((f_Sp_find_15 (z_gM k 0 6) (nI s) (0 : Int32) (0 : Int32) k).bind (fun r25 => k_Sr_executeOnce_91 166 (nI s) (b2i true) (b2i true) 0 r25.1 r25.2))).bind (strC 166 x2)).bind S3) (if z_bad (6 : Int32) 16 then none else (z_eb (e_f_Mo_load (z_gM m 0 6) (nI s) (0 : Int32) m) (fun r39 => (e_k_Mo_string_107 (nI s) (b2i true) (b2i true) (b2i true) r39.1 r39.2)))) FQQ
    rw [if_neg b6, if_neg b6, r6, bnd3]
    refine src_r hk hE h5 s8 (fun o f c g1 g2 => f91_no 166 x2 _ _ _ _ _ o f c g1 g2) (fun k1 m1 v f1 f2 hE1 h51 hk1 v1 v2 => ?_)
    have r7' : z_gM k1 0 7 = z_gM m1 0 7 := EQn_r hE1.1 (by decide)
    show z_r k0 (((if z_bad (7 : Int32) 16 then none else ((f_Sp_find_17 (z_gM k1 0 7) (nI s) 0 (0 : Int32) k1).bind (fun r23 => k_Sr_executeOnce_133 166 (nI s) (b2i true) (b2i true) r23.1 r23.2))).bind (strC 166 x2)).bind S3) (if z_bad (7 : Int32) 16 then none else (z_eb (e_f_Mo_load (z_gM m1 0 7) (nI s) (0 : Int32) m1) (fun r36 => ((f_Mo_add v r36.1 (0 : Int32) (1 : Int32) (nI s) r36.2).bind (fun r37 => ((k_Mo_string_177 (nI s) (b2i true) (b2i true) (b2i true) r37.2).bind (fun o => some (.inr o)))))))) FQQ
    rw [if_neg b7, if_neg b7, r7', bnd3]
    refine gol_r hk1 hE1 h51 s8 (fun o f c g1 g2 => f133_no 166 x2 _ _ _ _ o f c g1 g2) (fun k2 m2 w q1 q2 hE2 h52 hk2 w1 w2 => ?_)
    show z_r k0 ((((f_Sp_value_15 k2).bind (fun r19 => k_Sr_executeOnce_167 (nI s) (b2i true) (b2i true) 166 r19 k2)).bind (strC 166 x2)).bind S3) _ FQQ
    rw [v2 k2 (fr_M q1 1 (by decide)) (fr_M q1 4 (by decide)) (fr_I q1 18 (by decide)), po_bs2]
    obtain ⟨z, k3, m3, a1, a2, a3, _⟩ := dif_r hE2.2.1 false s1 s8 (em_r s v) (em_r s w)
    have e11 : z_gI m3 11 = z_gI m 11 := by rw [fr_I a3.2.1 11 (by decide), fr_I q2 11 (by decide), fr_I f2 11 (by decide)]
    have hz3 : z_gN m3 1 3 = b2i (fb (z_gN m3 1) 3) := by
      have a2' := a2
      rw [show (1 : Int32) = b2i true from rfl, M_add2 true v w false s1 s8] at a2'
      have : rsF (adV true v w false) s (adF true v w false s m2) = m3 := (Prod.ext_iff.mp (Option.some.inj a2')).2
      have h3 : z_gN m3 1 3 = b2i (zF (adV true v w false) s) := by rw [← this]; rfl
      rw [fb_b h3]; exact h3
    refine s167 (k := k3) (m := m3) (EQ_FU hE2 a3) true true true s (by rw [e11]; exact hrp) (fun _ => hz3) (by decide) (by rw [e11]; exact hx2) ?_ ?_
    · have a1' : f_Ar_difference v w 0 (nI s) k2 = some (z, k3) := a1
      unfold f_Sr_use k_Sr_use_36
      rw [if_pos rfl, w2 k2 rfl rfl rfl, po_bs2, a1']; rfl
    · have a2' : f_Mo_add v w 0 1 (nI s) m2 = some (z, m3) := a2
      show (f_Mo_add v w 0 1 (nI s) m2).bind _ = _
      rw [a2']; rfl
  ·
    obtain ⟨v, g1, g2, g3⟩ := get_r (j := 0) hE.1 (by decide) s1 s8
    have g1' : f_Op_part 0 (nI s) k = some v := g1
    have g2' : f_Mo_get8 0 (nI s) m = some v := g2
    show z_r k0 (((if z_bad (7 : Int32) 16 then none else ((f_Sp_find_17 (z_gM k 0 7) (nI s) 1 (0 : Int32) k).bind (fun r23 => k_Sr_executeOnce_133 170 (nI s) (b2i false) (b2i true) r23.1 r23.2))).bind (strC 170 x2)).bind S3) ((f_Mo_get8 0 (nI s) m).bind (fun r6 => if z_bad (7 : Int32) 16 then none else (z_eb (e_f_Mo_lookUp (z_gM m 0 7) (nI s) (1 : Int32) (0 : Int32) m) (fun r33 => ((f_Mo_hold r6 (nI s) r33).bind (fun r34 => ((k_Mo_string_177 (nI s) (b2i false) (b2i false) (b2i true) r34).bind (fun o => some (.inr o))))))))) FQQ
    rw [g2', po_bs2, if_neg b7, if_neg b7, r7, bnd3]
    refine gol_w hk hE h5 s8 (fun o f c g1 g2 => f133_no 170 x2 _ _ _ _ o f c g1 g2) (fun k2 m2 q1 q2 hE2 hput => ?_)
    obtain ⟨k3, m3, p1, p2, p3, p4, p5⟩ := hput v
    have g1k : f_Op_part 0 (nI s) k2 = some v := by
      rw [← g1']
      have e1 : f_Op_isUpperByte 0 (nI s) k2 = f_Op_isUpperByte 0 (nI s) k := by
        unfold f_Op_isUpperByte k_Op_isUpperByte_30 k_Op_isUpperByte_31
        rw [fr_I q1 6 (by decide)]
      unfold f_Op_part
      rw [e1, fr_M q1 0 (by decide)]
      rfl
    show z_r k0 ((((f_Op_part 0 (nI s) k2).bind (fun r8 => k_Sr_executeOnce_167 (nI s) (b2i false) (b2i true) 170 r8 k2)).bind (strC 170 x2)).bind S3) _ FQQ
    rw [g1k, po_bs2]
    have e11 : z_gI m3 11 = z_gI m 11 := by rw [fr_I p5 11 (by decide), fr_I q2 11 (by decide)]
    refine s167 (k := k3) (m := m3) p3 false true false s (by rw [e11]; exact hrp) (fun x => by cases x) (by decide) (by rw [e11]; exact hx2) ?_ ?_
    · unfold f_Sr_use
      rw [if_neg (by decide), if_neg (by decide), if_neg (by decide), p1]; rfl
    · rw [p2]; rfl
  ·
    show z_r k0 (((if z_bad (6 : Int32) 16 then none else ((f_Sp_find_15 (z_gM k 0 6) (nI s) (0 : Int32) (0 : Int32) k).bind (fun r25 => k_Sr_executeOnce_91 172 (nI s) (b2i true) (b2i false) 0 r25.1 r25.2))).bind (strC 172 x2)).bind S3) (if z_bad (6 : Int32) 16 then none else (z_eb (e_f_Mo_load (z_gM m 0 6) (nI s) (0 : Int32) m) (fun r39 => (e_k_Mo_string_107 (nI s) (b2i true) (b2i false) (b2i false) r39.1 r39.2)))) FQQ
    rw [if_neg b6, if_neg b6, r6, bnd3]
    refine src_r hk hE h5 s8 (fun o f c g1 g2 => f91_no 172 x2 _ _ _ _ _ o f c g1 g2) (fun k1 m1 v f1 f2 hE1 h51 hk1 v1 v2 => ?_)
    show z_r k0 ((((f_Sp_value_15 k1).bind (fun r19 => k_Sr_executeOnce_167 (nI s) (b2i true) (b2i false) 172 r19 k1)).bind (strC 172 x2)).bind S3) ((f_Mo_put8 0 (nI s) v m1).bind (fun r9 => ((k_Mo_string_177 (nI s) (b2i true) (b2i false) (b2i false) r9).bind (fun o => some (.inr o))))) FQQ
    rw [v2 k1 rfl rfl rfl, po_bs2]
    obtain ⟨k3, m3, p1, p2, p3, p4, p5⟩ := wA (j := 0) hE1 (by decide) s1 s8 (em_r s v)
    have p1' : f_Op_putPart 0 v (nI s) k1 = some k3 := p1
    have p2' : f_Mo_put8 0 (nI s) v m1 = some m3 := p2
    have e11 : z_gI m3 11 = z_gI m 11 := by rw [fr_I p5 11 (by decide), fr_I f2 11 (by decide)]
    refine s167 (k := k3) (m := m3) p3 true false false s (by rw [e11]; exact hrp) (fun x => by cases x) (by decide) (by rw [e11]; exact hx2) ?_ ?_
    · unfold f_Sr_use
      rw [if_neg (by decide), if_pos rfl, p1']; rfl
    · rw [p2']; rfl
  ·
    obtain ⟨v, g1, g2, g3⟩ := get_r (j := 0) hE.1 (by decide) s1 s8
    have g1' : f_Op_part 0 (nI s) k = some v := g1
    have g2' : f_Mo_get8 0 (nI s) m = some v := g2
    show z_r k0 (((if z_bad (7 : Int32) 16 then none else ((f_Sp_find_17 (z_gM k 0 7) (nI s) 0 (0 : Int32) k).bind (fun r23 => k_Sr_executeOnce_133 174 (nI s) (b2i false) (b2i true) r23.1 r23.2))).bind (strC 174 x2)).bind S3) ((f_Mo_get8 0 (nI s) m).bind (fun r6 => if z_bad (7 : Int32) 16 then none else (z_eb (e_f_Mo_load (z_gM m 0 7) (nI s) (0 : Int32) m) (fun r36 => ((f_Mo_add r6 r36.1 (0 : Int32) (1 : Int32) (nI s) r36.2).bind (fun r37 => ((k_Mo_string_177 (nI s) (b2i false) (b2i true) (b2i true) r37.2).bind (fun o => some (.inr o))))))))) FQQ
    rw [g2', po_bs2, if_neg b7, if_neg b7, r7, bnd3]
    refine gol_r hk hE h5 s8 (fun o f c g1 g2 => f133_no 174 x2 _ _ _ _ o f c g1 g2) (fun k2 m2 w q1 q2 hE2 h52 hk2 w1 w2 => ?_)
    have g1k : f_Op_part 0 (nI s) k2 = some v := by
      rw [← g1']
      have e1 : f_Op_isUpperByte 0 (nI s) k2 = f_Op_isUpperByte 0 (nI s) k := by
        unfold f_Op_isUpperByte k_Op_isUpperByte_30 k_Op_isUpperByte_31
        rw [fr_I q1 6 (by decide)]
      unfold f_Op_part
      rw [e1, fr_M q1 0 (by decide)]
      rfl
    show z_r k0 ((((f_Op_part 0 (nI s) k2).bind (fun r8 => k_Sr_executeOnce_167 (nI s) (b2i false) (b2i true) 174 r8 k2)).bind (strC 174 x2)).bind S3) _ FQQ
    rw [g1k, po_bs2]
    obtain ⟨z, k3, m3, a1, a2, a3, _⟩ := dif_r hE2.2.1 false s1 s8 (em_r s v) (em_r s w)
    have e11 : z_gI m3 11 = z_gI m 11 := by rw [fr_I a3.2.1 11 (by decide), fr_I q2 11 (by decide)]
    have hz3 : z_gN m3 1 3 = b2i (fb (z_gN m3 1) 3) := by
      have a2' := a2
      rw [show (1 : Int32) = b2i true from rfl, M_add2 true v w false s1 s8] at a2'
      have : rsF (adV true v w false) s (adF true v w false s m2) = m3 := (Prod.ext_iff.mp (Option.some.inj a2')).2
      have h3 : z_gN m3 1 3 = b2i (zF (adV true v w false) s) := by rw [← this]; rfl
      rw [fb_b h3]; exact h3
    refine s167 (k := k3) (m := m3) (EQ_FU hE2 a3) false true true s (by rw [e11]; exact hrp) (fun _ => hz3) (by decide) (by rw [e11]; exact hx2) ?_ ?_
    · have a1' : f_Ar_difference v w 0 (nI s) k2 = some (z, k3) := a1
      unfold f_Sr_use k_Sr_use_36
      rw [if_neg (by decide), if_neg (by decide), if_pos rfl, w2 k2 rfl rfl rfl, po_bs2, a1']; rfl
    · have a2' : f_Mo_add v w 0 1 (nI s) m2 = some (z, m3) := a2
      show (f_Mo_add v w 0 1 (nI s) m2).bind _ = _
      rw [a2']; rfl
theorem n2_f15 (p : Int64) (n how st : Int32) (k : z_Sg) : N2 (f_Sp_find_15 p n how st k) := by
  unfold f_Sp_find_15 k_Sp_find_15_16
  refine n2_a (fun o => ?_)
  rw [po_nm2]
  refine po_l (fun _ => True) (fun ih a _ hih => ?_) 2000 _ trivial
  have h69 : ∀ x7 q, N2 (k_Sp_find_15_69 ih a.1 a.2.1 a.2.2.1 a.2.2.2.1 x7 q) := by
    intro x7 q
    unfold k_Sp_find_15_69 k_Sp_find_15_128 k_Sp_find_15_124
    exact n2_a (fun o => n2_i n2_0 (n2_i n2_0 (n2_i (hih _ trivial) (n2_i n2_0 (n2_i (n2_p (n2_rf _ _ (by decide) _)) (n2_p (n2_rf _ _ (by decide) _)))))))
  unfold kb_Sp_find_15_16 k_Sp_find_15_128
  exact n2_i (n2_s (by decide)) (n2_i (h69 _ _) (n2_i (h69 _ _) (n2_i n2_0 (n2_i n2_0 (hih _ trivial)))))
theorem n2_f17 (p : Int64) (n how st : Int32) (k : z_Sg) : N2 (f_Sp_find_17 p n how st k) := by
  unfold f_Sp_find_17 k_Sp_find_17_16
  refine n2_a (fun o => ?_)
  rw [po_nm2]
  refine po_l (fun _ => True) (fun ih a _ hih => ?_) 2000 _ trivial
  have h69 : ∀ x7 q, N2 (k_Sp_find_17_69 ih a.1 a.2.1 a.2.2.1 a.2.2.2.1 x7 q) := by
    intro x7 q
    unfold k_Sp_find_17_69 k_Sp_find_17_128 k_Sp_find_17_124
    exact n2_a (fun o => n2_i n2_0 (n2_i n2_0 (n2_i (hih _ trivial) (n2_i n2_0 (n2_i (n2_p (n2_rf _ _ (by decide) _)) (n2_p (n2_rf _ _ (by decide) _)))))))
  unfold kb_Sp_find_17_16 k_Sp_find_17_128
  exact n2_i (n2_s (by decide)) (n2_i (h69 _ _) (n2_i (h69 _ _) (n2_i n2_0 (n2_i n2_0 (hih _ trivial)))))
theorem n2_once (a b : Int32) (k : z_Sg) : N2 (f_Sr_executeOnce a b k) := by
  have h193 : ∀ x y d q, N2 (k_Sr_executeOnce_193 x y d q) := by
    intro x y d q
    unfold k_Sr_executeOnce_193 k_Sr_executeOnce_216 k_Sr_executeOnce_240
    exact n2_i n2_0 (n2_i (n2_i n2_0 (n2_n (n2_i n2_0 (n2_i (n2_i n2_0 (n2_s (by decide))) (n2_i n2_0 (n2_s (by decide))))))) (n2_i n2_0 (n2_n (n2_i n2_0 (n2_i (n2_i n2_0 (n2_s (by decide))) (n2_i n2_0 (n2_s (by decide))))))))
  have h133 : ∀ x y z w q6 q, ¬ q6 = -2 → N2 (k_Sr_executeOnce_133 x y z w q6 q) := by
    intro x y z w q6 q hq
    unfold k_Sr_executeOnce_133 k_Sr_executeOnce_167
    exact n2_i (n2_i (n2_a (fun o => n2_a (fun p => n2_i (h193 _ _ _ _) (h193 _ _ _ _)))) (n2_a (fun o => n2_a (fun p => n2_i (h193 _ _ _ _) (h193 _ _ _ _))))) (n2_s hq)
  have h91 : ∀ x y z w v q6 q, ¬ q6 = -2 → N2 (k_Sr_executeOnce_91 x y z w v q6 q) := by
    intro x y z w v q6 q hq
    unfold k_Sr_executeOnce_91 k_Sr_executeOnce_127
    exact n2_i (h133 _ _ _ _ _ _ hq) (n2_i (n2_i n2_0 (n2_i (n2_b (n2_f17 _ _ _ _ _) (fun o ho => h133 _ _ _ _ _ _ ho)) (n2_b (n2_f17 _ _ _ _ _) (fun o ho => h133 _ _ _ _ _ _ ho)))) (h133 _ _ _ _ _ _ hq))
  have h60 : ∀ x y z w v q, N2 (k_Sr_executeOnce_60 x y z w v q) := by
    intro x y z w v q
    unfold k_Sr_executeOnce_60
    exact n2_i (h91 _ _ _ _ _ _ _ (by decide)) (n2_i n2_0 (n2_b (n2_f15 _ _ _ _ _) (fun o ho => h91 _ _ _ _ _ _ _ ho)))
  have h26 : ∀ x y z q, N2 (k_Sr_executeOnce_26 x y z q) := by
    intro x y z q
    unfold k_Sr_executeOnce_26 k_Sr_executeOnce_39 k_Sr_executeOnce_55
    exact n2_i (n2_i (h60 _ _ _ _ _ _) (n2_i (h60 _ _ _ _ _ _) (h60 _ _ _ _ _ _))) (n2_i (h60 _ _ _ _ _ _) (n2_i (h60 _ _ _ _ _ _) (h60 _ _ _ _ _ _)))
  unfold f_Sr_executeOnce k_Sr_executeOnce_21
  exact n2_i (h26 _ _ _ _) (n2_i (h26 _ _ _ _) (n2_i (h26 _ _ _ _) (h26 _ _ _ _)))
theorem g_str {k0 k m : z_Sg} {n : Nat} (h1 : 164 ≤ n) (h2 : n < 176) (h3 : ¬ n / 2 = 84) (h : TQ (nI n) k0 k m) (hg : z_gL m 7 = z_gL m 0 + (z_gI m 6).toInt64) (hrp : rp (z_gI m 11)) : z_r k0 ((k_De_decode_43 (-1) 1 k).bind S1) (e_f_Mo_string (nI n &&& (254 : Int32)) (nI (szO n (z_gI m 10) (z_gI m 16))) m) FQQ := by
  have b1 : ¬ z_bad (1 : Int32) 16 := by decide
  have fx : ∀ n, n < 176 → 164 ≤ n → ¬ n / 2 = 84 → flE n = true ∧ (!(decide (n / 8 = 57)) && !(decide (n = 246)) && !(decide (n = 247)) = true) ∧ ((nI n &&& (-2 : Int32)) = nI (n / 2 * 2) ∧ (nI n &&& (254 : Int32)) = nI (n / 2 * 2)) := by decide +kernel
  have fz : ∀ n, n < 176 → 164 ≤ n → ¬ n / 2 = 84 → (¬ nI (n / 2 * 2) < (164 : Int32) ∧ ¬ (174 : Int32) < nI (n / 2 * 2) ∧ ¬ nI (n / 2 * 2) = (168 : Int32)) := by decide +kernel
  have fy : ∀ n, n < 176 → 164 ≤ n → ¬ n / 2 = 84 → (nI (n / 2 * 2) = 164 ∨ nI (n / 2 * 2) = 166 ∨ nI (n / 2 * 2) = 170 ∨ nI (n / 2 * 2) = 172 ∨ nI (n / 2 * 2) = 174) ∧ ((nI n &&& (1 : Int32)) = 0 ↔ n % 2 = 0) := by decide +kernel
  obtain ⟨f1, f2, f3, f4⟩ := fx n h2 h1 h3
  obtain ⟨f5, f6, f7⟩ := fz n h2 h1 h3
  obtain ⟨f8, f9⟩ := fy n h2 h1 h3
  obtain ⟨s1, s8⟩ := szO_in n (z_gI m 10) (z_gI m 16)
  rw [f4]
  refine run_a (by omega) f2 h hg (fun k' hp ho => ?_)
  have x10 : z_gI k' 10 = z_gI m 11 := EQn_p hp.1.1
  have r1 : z_gM k' 0 1 = z_gM m 0 1 := EQn_r hp.1.1 (by decide)
  generalize hκ : nI (n / 2 * 2) = κ at *
  have e94 : ∀ x2, k_Sr_execute_71 κ x2 k' = (f_Sr_executeOnce κ (nI (szO n (z_gI m 10) (z_gI m 16))) k').bind (strC κ x2) := by
    intro x2
    unfold k_Sr_execute_71 k_Sr_execute_94
    rw [ho]
    by_cases c : n % 2 = 0
    · rw [if_pos (f9.mpr c)]
      have : szO n (z_gI m 10) (z_gI m 16) = 1 := by unfold szO; rw [if_pos c]
      rw [this]; rfl
    · rw [if_neg (fun x => c (f9.mp x)), K_sizeV, po_bs2]
      have : szO n (z_gI m 10) (z_gI m 16) = szV (z_gI k' 6) (z_gI k' 5) := by unfold szO; rw [if_neg c, EQn_x hp.1.1, EQn_s hp.1.1]
      rw [this]
  have nC : ∀ x2, N2 ((f_Sr_executeOnce κ (nI (szO n (z_gI m 10) (z_gI m 16))) k').bind (strC κ x2)) := by
    intro x2
    refine n2_b (n2_once _ _ _) (fun o ho => ?_)
    show N2 (if o.1 = (-1 : Int32) then _ else _)
    unfold k_Sr_execute_148
    exact n2_i (n2_i (n2_s ho) (n2_i n2_0 (n2_i n2_0 (n2_n (n2_a (fun b => n2_i (n2_s ho) (n2_n (n2_s ho)))))))) (n2_s ho)
  have once := fun x2 (hx2 : x2 = 0 ↔ z_gI m 11 = 0) => once_r (k0 := k0) hp.2.2.1 hp.1 hp.2.1 hrp s1 s8 f8 (x2 := x2) hx2
  unfold e_f_Mo_string
  by_cases c0 : z_gI m 11 = 0
  · rw [if_pos c0]
    have hS : f_Sr_execute k' = (f_Sr_executeOnce κ (nI (szO n (z_gI m 10) (z_gI m 16))) k').bind (strC κ 0) := by
      unfold f_Sr_execute
      rw [po_nm2, ho, f3, if_neg f5, if_neg f6, if_neg f7, x10, if_pos c0, ← e94 0]
      rfl
    refine ex_sr (fl_no (by omega) f1 ho) hS (nC 0) ?_
    exact once 0 ⟨fun _ => c0, fun _ => rfl⟩
  · rw [if_neg c0, if_neg b1]
    have hS : f_Sr_execute k' = if z_gM k' 0 1 = 0 then some (-1, k') else (f_Sr_executeOnce κ (nI (szO n (z_gI m 10) (z_gI m 16))) k').bind (strC κ 1) := by
      unfold f_Sr_execute
      rw [po_nm2, ho, f3, if_neg f5, if_neg f6, if_neg f7, x10, if_neg c0, ← e94 1]
      rfl
    show z_r k0 _ (if z_gM m 0 1 = 0 then _ else _) FQQ
    rw [r1] at hS
    by_cases cz : z_gM m 0 1 = 0
    · rw [if_pos cz] at hS ⊢
      refine ex_sr (fl_no (by omega) f1 ho) hS (n2_s (by decide)) ?_
      exact fin hp.1
    · rw [if_neg cz] at hS ⊢
      refine ex_sr (fl_no (by omega) f1 ho) hS (nC 1) ?_
      exact once 1 ⟨fun x => absurd x (by decide), fun x => absurd x c0⟩
