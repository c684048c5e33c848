def lvF (m : z_Sg) : z_Sg := z_sN (z_sN (z_sN (z_sN (z_sN (z_sN m 1 0 (b2i (tb (z_gL m 4) 0))) 1 1 (b2i (tb (z_gL m 4) 2))) 1 2 (b2i (tb (z_gL m 4) 4))) 1 3 (b2i (tb (z_gL m 4) 6))) 1 4 (b2i (tb (z_gL m 4) 7))) 1 6 (b2i (tb (z_gL m 4) 11))
theorem fw_lv (m : z_Sg) : fw (z_gN (lvF m) 1) = fwB (tb (z_gL m 4) 0) (tb (z_gL m 4) 2) (tb (z_gL m 4) 4) (tb (z_gL m 4) 6) (tb (z_gL m 4) 7) (fb (z_gN m 1) 5) (tb (z_gL m 4) 11) := fw_of (fb_b rfl) (fb_b rfl) (fb_b rfl) (fb_b rfl) (fb_b rfl) rfl (fb_b rfl)
theorem lv_fr (m : z_Sg) : fr [] [] [] [1] m (lvF m) := fr_sN (fr_sN (fr_sN (fr_sN (fr_sN (fr_sN fr_0 (by decide)) (by decide)) (by decide)) (by decide)) (by decide)) (by decide)
abbrev z_LVf : (Int32 × z_Sg → Option z_Sg) → Int32 × z_Sg → Option z_Sg := fun ih455 a => kb_Mo_divide_455 ih455 a.1 a.2
theorem lv_s (J : Int32 × z_Sg → Option z_Sg) {j : Nat} (hj : j < 7) (h5 : ¬ j = 5) (q : z_Sg) : kb_Mo_divide_455 J (nI j) q = J (nI (j + 1), z_sN q 1 j (b2i (tb (z_gL q 4) (fpos j)))) := by
  have c : ∀ j, j < 7 → ¬ j = 5 → ¬ (7 : Int32) ≤ nI j ∧ ¬ nI j = 5 := by decide +kernel
  obtain ⟨c1, c2⟩ := c j hj h5
  unfold kb_Mo_divide_455 k_Mo_divide_474
  rw [if_neg c1, if_neg c2, M_leave hj, po_bs2, po_nm2, nI_S]
theorem lv_5 (J : Int32 × z_Sg → Option z_Sg) (q : z_Sg) : kb_Mo_divide_455 J (nI 5) q = J (nI 6, q) := by
  unfold kb_Mo_divide_455 k_Mo_divide_474
  rw [if_neg (by decide), if_pos (show nI 5 = 5 from rfl), po_nm2]; rfl
theorem lv_7 (J : Int32 × z_Sg → Option z_Sg) (q : z_Sg) : kb_Mo_divide_455 J (nI 7) q = some q := by
  unfold kb_Mo_divide_455
  rw [if_pos (by decide)]
theorem M_lv (m : z_Sg) : k_Mo_divide_455 0 m = some (lvF m) := by
  have key : ∀ f, z_lo z_LVf (f + 8) (nI 0, m) = some (lvF m) := by
    intro f
    refine (lv_s (z_lo z_LVf (f + 7)) (j := 0) (by decide) (by decide) m).trans ?_
    refine (lv_s (z_lo z_LVf (f + 6)) (j := 1) (by decide) (by decide) _).trans ?_
    refine (lv_s (z_lo z_LVf (f + 5)) (j := 2) (by decide) (by decide) _).trans ?_
    refine (lv_s (z_lo z_LVf (f + 4)) (j := 3) (by decide) (by decide) _).trans ?_
    refine (lv_s (z_lo z_LVf (f + 3)) (j := 4) (by decide) (by decide) _).trans ?_
    refine (lv_5 (z_lo z_LVf (f + 2)) _).trans ?_
    refine (lv_s (z_lo z_LVf (f + 1)) (j := 6) (by decide) (by decide) _).trans ?_
    exact lv_7 (z_lo z_LVf f) _
  exact key 1992
theorem div_r {k0 k m : z_Sg} (hk : KX k0 k) (hE : EQ k m) (sg : Bool) {n : Nat} (hn : n = 1 ∨ n = 2 ∨ n = 4 ∨ n = 8) {v : Int64} (hv : v &&& mk n = v) (hk13 : (z_gI k 13 = 7) ↔ sg = true) : z_r k0 ((k_On_executeByReg_159 (nI n) v k).bind S3) (e_k_Mo_unary_187 v (nI n) (b2i sg) m) FQQ := by
  have h1 : 1 ≤ n := by omega
  have h8 : n ≤ 8 := by omega
  have hN : 2 ^ (8 * n) ≤ 2 ^ 64 := Nat.pow_le_pow_right (by decide) (by omega)
  have msk : ∀ y : Int64, y &&& mk n = y → uN y < 2 ^ (8 * n) := by
    intro y hy
    have e1 : y &&& mk n = lN (uN y % 2 ^ (8 * n)) := by
      have := and_mkN h1 h8 (uN_lt y)
      rw [uN_l] at this
      exact this
    have hlt : uN y % 2 ^ (8 * n) < 2 ^ (8 * n) := Nat.mod_lt _ (Nat.two_pow_pos _)
    rw [← hy, e1, uN_N (by omega)]
    exact hlt
  have hx := msk v hv
  have r0 : z_gM k 0 0 = z_gM m 0 0 := EQn_r hE.1 (by decide)
  have r2 : z_gM k 0 2 = z_gM m 0 2 := EQn_r hE.1 (by decide)
  obtain ⟨a, g1, g2, g3⟩ := get_r (j := 0) hE.1 (by decide) h1 h8
  have g1' : f_Op_part 0 (nI n) k = some a := g1
  obtain ⟨u, l, hu, hl, eK, hA, hU⟩ : ∃ u l, u < 2 ^ (8 * n) ∧ l < 2 ^ (8 * n) ∧ f_On_divideBy v (nI n) k = k_On_divideBy_69 (nI n) (lN u) (lN l) (lN (uN v)) (nI n) (b2i sg) k ∧ f_Mo_get8 0 (if n = 1 then 2 else nI n) m = some (lN (if n = 1 then u * 2 ^ 8 + l else l)) ∧ (n ≠ 1 → z_gM m 0 2 &&& mk n = lN u) := by
    have e33 : ∀ t0, k_On_divideBy_33 v (nI n) t0 k = k_On_divideBy_69 (nI n) t0 a v (nI n) (b2i sg) k := by
      intro t0
      unfold k_On_divideBy_33
      rw [g1', po_bs2]
      cases sg with
      | true => rw [if_pos (hk13.mpr rfl)]; rfl
      | false => rw [if_neg (fun x => by have := hk13.mp x; cases this)]; rfl
    unfold f_On_divideBy
    by_cases c1 : n = 1
    · subst c1
      have b0 : ¬ z_bad (0 : Int32) 16 := by decide
      obtain ⟨R, hR, eR⟩ := wb_of (z_gM m 0 0)
      have ea : a = lN (R % 256) := by
        have := K_part (k := k) (j := 0) (n := 1) (by decide) (by decide) (by decide)
        rw [g1] at this
        have e := Option.some.inj this
        rw [e]
        unfold rgN
        rw [if_neg (fun x => by have := x.2.2.1; omega), r0, eR, and_mkN (by decide) (by decide) hR]
      have eu : (z_lushr (z_gM k 0 0) 8) &&& 255 = lN (R / 256 % 256) := by
        rw [r0, eR, show (8 : Int32) = nI 8 from rfl, z_lushr_N hR (by decide), show (255 : Int64) = lN (2 ^ 8 - 1) from rfl, wb_mask (by omega) (by decide)]
      refine ⟨R / 256 % 256, R % 256, by omega, by omega, ?_, ?_, fun h => absurd rfl h⟩
      · rw [if_pos (show nI 1 = 1 from rfl), if_neg b0, e33]
        show k_On_divideBy_69 (nI 1) ((z_lushr (z_gM k 0 0) 8) &&& 255) a v (nI 1) (b2i sg) k = _
        rw [eu, ea, uN_l]
      · rw [if_pos rfl, if_pos rfl]
        have := M_get8 (m := m) (j := 0) (n := 2) (by decide) (by decide)
        have e2 : f_Mo_get8 0 2 m = some (rgN (z_gM m 0) (z_gI m 10) 0 2) := this
        rw [e2, no_hi (by decide), eR, and_mkN (by decide) (by decide) hR]
        have e3 : R % 2 ^ (8 * 2) = R / 256 % 256 * 2 ^ 8 + R % 256 := by omega
        rw [e3]
    · have n1 : ¬ nI n = 1 := by rcases hn with rfl | rfl | rfl | rfl <;> first | exact absurd rfl c1 | decide
      obtain ⟨b, y1, y2, y3⟩ := get_r (j := 2) hE.1 (by decide) h1 h8
      have y1' : f_Op_part 2 (nI n) k = some b := y1
      refine ⟨uN b, uN a, msk b y3, msk a g3, ?_, ?_, fun _ => ?_⟩
      · rw [if_neg n1, y1', po_bs2, e33, uN_l, uN_l, uN_l]
      · rw [if_neg c1, if_neg c1, uN_l]; exact g2
      · have := K_part (k := k) (j := 2) (n := n) (by decide) h1 h8
        rw [y1, no_hi (by omega), r2] at this
        rw [uN_l]
        exact (Option.some.inj this).symm
  obtain ⟨kno, kok⟩ := K_div (k := k) hE.2.1 hn hu hl hx sg
  obtain ⟨mno, mok⟩ := M_div (m := m) hn hu hl hx sg hA hU
  rw [uN_l] at mno mok
  unfold k_On_executeByReg_159 e_k_Mo_unary_187
  rw [eK]
  unfold k_On_divideBy_69
  have e190 : ∀ x : Option (Sum z_Dd z_Sg), z_eb x (fun r11 => ((k_Mo_unary_190 r11).bind (fun o => some (.inr o)))) = x := fun x => eb_id x k_Mo_unary_190 (fun _ => rfl)
  rw [e190]
  by_cases ok : dvK sg u l (uN v) n
  · obtain ⟨k1, p1, p2, p3, p4, p5⟩ := kok ok
    obtain ⟨m1, q1, q2⟩ := mok ok
    rw [p1, po_bs2, if_neg (show ¬ (1 : Int32) = 0 by decide), q1]
    generalize (if dvO sg u (uN v) n then -lN (dvD sg u l n / dvM sg (uN v) n) else lN (dvD sg u l n / dvM sg (uN v) n)) = QQ at *
    generalize (if dvG sg u n then -lN (dvD sg u l n % dvM sg (uN v) n) else lN (dvD sg u l n % dvM sg (uN v) n)) = RR at *
    have hE1 : EQn k1 m1 := EQn_k hE.1 p2 q2 (by decide) (by decide) (by decide) (by decide) (by decide) (by decide) (by decide)
    have finish : ∀ k2 m2, EQn k2 m2 → fr [] [] [0] [] k1 k2 → fr [] [] [0] [] m1 m2 → EQ k2 (lvF m2) := by
      intro k2 m2 hn2 fk fm
      refine ⟨EQn_k hn2 (fr_0 (Ls := []) (Is := []) (Ms := []) (Ns := [])) (lv_fr m2) (by decide) (by decide) (by decide) (by decide) (by decide) (by decide) (by decide), ?_, ?_, ?_⟩
      · rw [fr_I fk 0 (by decide), p5, fw_lv, fr_L fm 4 (by decide), fr_L q2 4 (by decide), fr_N fm 1 (by decide), fr_N q2 1 (by decide), EQn_L hE.1 (show 4 < 6 by decide)]
      · show z_gI k2 2 = z_gI m2 2
        rw [fr_I fk 2 (by decide), fr_I p2 2 (by decide), fr_I fm 2 (by decide), fr_I q2 2 (by decide)]; exact hE.2.2.1
      · show z_gL k2 10 = z_gL m2 7
        rw [fr_L fk 10 (by decide), fr_L p2 10 (by decide), fr_L fm 7 (by decide), fr_L q2 7 (by decide)]; exact hE.2.2.2
    unfold f_On_putHalves k_Mo_divide_404 k_Mo_divide_452
    by_cases c1 : n = 1
    · subst c1
      rw [if_pos (show nI 1 = 1 from rfl), if_pos (show nI 1 = 1 from rfl), p3, p4]
      obtain ⟨k2, m2, w1, w2, w3, w4, w5⟩ := put_r (j := 0) (n := 2) hE1 (by decide) (by decide) (by decide) (em_r 2 ((z_lshl (RR &&& mk 1) 8) ||| (QQ &&& mk 1)))
      have w1' : f_Op_putPart 0 ((z_lshl (RR &&& mk 1) 8) ||| (QQ &&& mk 1)) 2 k1 = some k2 := w1
      have w2' : f_Mo_put8 0 2 ((z_lshl (RR &&& mk 1) 8) ||| (QQ &&& mk 1)) m1 = some m2 := w2
      have l1 : f_Mo_lowest RR 1 m1 = some (RR &&& mk 1) := M_lowest RR (n := 1) (by decide) m1
      have l2 : f_Mo_lowest QQ 1 m1 = some (QQ &&& mk 1) := M_lowest QQ (n := 1) (by decide) m1
      rw [l1, po_bs2, l2, po_bs2, w2', po_bs2, M_lv, w1']
      exact fin (finish k2 m2 w3 w4 w5)
    · have n1 : ¬ nI n = 1 := by rcases hn with rfl | rfl | rfl | rfl <;> first | exact absurd rfl c1 | decide
      rw [if_neg n1, if_neg n1, p3]
      obtain ⟨k2, m2, w1, w2, w3, w4, w5⟩ := put_r (j := 0) hE1 (by decide) h1 h8 (em_mk h8 QQ)
      have e12 : z_gL k2 12 = RR &&& mk n := by rw [fr_L w4 12 (by decide)]; exact p4
      obtain ⟨k3, m3, y1, y2, y3, y4, y5⟩ := put_r (j := 2) w3 (by decide) h1 h8 (em_mk h8 RR)
      have w1' : f_Op_putPart 0 (QQ &&& mk n) (nI n) k1 = some k2 := w1
      have w2' : f_Mo_put8 0 (nI n) QQ m1 = some m2 := w2
      have y1' : f_Op_putPart 2 (RR &&& mk n) (nI n) k2 = some k3 := y1
      have y2' : f_Mo_put8 2 (nI n) RR m2 = some m3 := y2
      rw [w2', po_bs2, y2', po_bs2, M_lv, w1', po_bs2, e12, y1']
      exact fin (finish k3 m3 y3 (fr_t w4 y4) (fr_t w5 y5))
  · obtain ⟨k1, p1, p2⟩ := kno ok
    rw [p1, po_bs2, if_pos rfl, mno ok]
    have hk1 : KX k0 k1 := KX_fr hk p2 (by decide) (by decide) (by decide)
    have e5 : z_gL k1 5 = z_gL m 5 := by rw [fr_L p2 5 (by decide)]; exact EQn_L hE.1 (by decide)
    have e0 : z_gI k1 1 = z_gI m 0 := by rw [fr_I p2 1 (by decide)]; exact hE.1.2.2.1
    show z_r k0 (some (0, k1)) (some (.inl (0, z_gL m 5, z_gI m 0))) FQQ
    exact r_x (by decide) 0 hk1 e5 e0
