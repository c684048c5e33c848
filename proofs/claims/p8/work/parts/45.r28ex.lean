theorem r_K {α β : Type} {k0 : z_Sg} {x : Option α} {a : α} {kk : α → Option (Int32 × z_Sg)} {y : Option (Sum z_Dd β)} {Q : z_Sg → β → Prop} (h : x = some a) (h2 : z_r k0 (kk a) y Q) : z_r k0 (x.bind kk) y Q := by rw [h]; exact h2
theorem r_M {α β : Type} {k0 : z_Sg} {x : Option α} {a : α} {y : Option (Int32 × z_Sg)} {l : α → Option (Sum z_Dd β)} {Q : z_Sg → β → Prop} (h : x = some a) (h2 : z_r k0 y (l a) Q) : z_r k0 y (x.bind l) Q := by rw [h]; exact h2
def memW (k m : z_Sg) : Prop := ∃ w : Nat, w ≤ 8 ∧ z_gI m 5 = nI w ∧ (∀ j, j < w → ¬ z_gM m 2 j < 0) ∧ ∀ y, kB (z_gM k 1) y = bw (mB (z_gN m 0)) (z_gM m 2) (z_gN m 3) w y
def EQn (k m : z_Sg) : Prop := (∀ i, i < 16 → z_gM k 0 i = z_gM m 0 i) ∧ (∀ j, j < 6 → z_gL k j = z_gL m j) ∧ z_gI k 1 = z_gI m 0 ∧ memW k m ∧ z_gI m 4 = -1 ∧ z_gI k 6 = z_gI m 10 ∧ z_gI k 10 = z_gI m 11 ∧ z_gI k 5 = z_gI m 16
def EQ (k m : z_Sg) : Prop := EQn k m ∧ z_gI k 0 = fw (z_gN m 1) ∧ z_gI k 2 = z_gI m 2 ∧ z_gL k 10 = z_gL m 7
theorem EQn_r {k m : z_Sg} (h : EQn k m) {i : Nat} (hi : i < 16) : z_gM k 0 i = z_gM m 0 i := h.1 i hi
theorem EQn_L {k m : z_Sg} (h : EQn k m) {j : Nat} (hj : j < 6) : z_gL k j = z_gL m j := h.2.1 j hj
theorem EQn_w {k m : z_Sg} (h : EQn k m) : memW k m := h.2.2.2.1
theorem EQn_a {k m : z_Sg} (h : EQn k m) : z_gI m 4 = -1 := h.2.2.2.2.1
theorem EQn_x {k m : z_Sg} (h : EQn k m) : z_gI k 6 = z_gI m 10 := h.2.2.2.2.2.1
theorem EQn_p {k m : z_Sg} (h : EQn k m) : z_gI k 10 = z_gI m 11 := h.2.2.2.2.2.2.1
theorem EQn_s {k m : z_Sg} (h : EQn k m) : z_gI k 5 = z_gI m 16 := h.2.2.2.2.2.2.2
theorem EQn_fr {k m k' m' : z_Sg} (h : EQn k m) {Lk Ik Mk Nk Lm Im Mm Nm : List Nat} (fk : fr Lk Ik Mk Nk k k') (fm : fr Lm Im Mm Nm m m') (h1 : ∀ j ∈ Lk, 6 ≤ j) (h2 : ∀ j ∈ Ik, j = 0 ∨ j = 2 ∨ (3 ≤ j ∧ j ≠ 5 ∧ j ≠ 6 ∧ j ≠ 10)) (h3 : ∀ j ∈ Mk, j = 0 ∨ 2 ≤ j) (h4 : ∀ j ∈ Lm, 6 ≤ j) (h5 : ∀ j ∈ Im, j = 1 ∨ j = 2 ∨ (6 ≤ j ∧ j ≠ 10 ∧ j ≠ 11 ∧ j ≠ 16)) (h6 : ∀ j ∈ Mm, j = 0 ∨ 3 ≤ j) (h7 : ∀ j ∈ Nm, j = 1) (hr : ∀ i, i < 16 → z_gM k' 0 i = z_gM m' 0 i) : EQn k' m' := by
  obtain ⟨s0, s1, s2, ⟨w, w1, w2, w3, w4⟩, s4, s5, s6, s7⟩ := h
  have km : z_gM k' 1 = z_gM k 1 := fr_M fk 1 (fun x => by have := h3 1 x; omega)
  have ki : ∀ j, (j = 1 ∨ j = 5 ∨ j = 6 ∨ j = 10) → z_gI k' j = z_gI k j := fun j hj => fr_I fk j (fun x => by have := h2 j x; omega)
  have mi : ∀ j, (j = 0 ∨ j = 4 ∨ j = 5 ∨ j = 10 ∨ j = 11 ∨ j = 16) → z_gI m' j = z_gI m j := fun j hj => fr_I fm j (fun x => by have := h5 j x; omega)
  have m2 : z_gM m' 2 = z_gM m 2 := fr_M fm 2 (fun x => by have := h6 2 x; omega)
  have mn : ∀ j, (j = 0 ∨ j = 3) → z_gN m' j = z_gN m j := fun j hj => fr_N fm j (fun x => by have := h7 j x; omega)
  refine ⟨hr, fun j hj => ?_, ?_, ⟨w, w1, ?_, ?_, ?_⟩, ?_, ?_, ?_, ?_⟩
  · rw [fr_L fk j (fun x => by have := h1 j x; omega), fr_L fm j (fun x => by have := h4 j x; omega)]; exact s1 j hj
  · rw [ki 1 (by omega), mi 0 (by omega)]; exact s2
  · rw [mi 5 (by omega)]; exact w2
  · rw [m2]; exact w3
  · rw [km, m2, mn 0 (by omega), mn 3 (by omega)]; exact w4
  · rw [mi 4 (by omega)]; exact s4
  · rw [ki 6 (by omega), mi 10 (by omega)]; exact s5
  · rw [ki 10 (by omega), mi 11 (by omega)]; exact s6
  · rw [ki 5 (by omega), mi 16 (by omega)]; exact s7
theorem EQn_k {k m k' m' : z_Sg} (h : EQn k m) {Lk Ik Mk Nk Lm Im Mm Nm : List Nat} (fk : fr Lk Ik Mk Nk k k') (fm : fr Lm Im Mm Nm m m') (h1 : ∀ j ∈ Lk, 6 ≤ j) (h2 : ∀ j ∈ Ik, j = 0 ∨ j = 2 ∨ (3 ≤ j ∧ j ≠ 5 ∧ j ≠ 6 ∧ j ≠ 10)) (h3 : ∀ j ∈ Mk, 2 ≤ j) (h4 : ∀ j ∈ Lm, 6 ≤ j) (h5 : ∀ j ∈ Im, j = 1 ∨ j = 2 ∨ (6 ≤ j ∧ j ≠ 10 ∧ j ≠ 11 ∧ j ≠ 16)) (h6 : ∀ j ∈ Mm, 3 ≤ j) (h7 : ∀ j ∈ Nm, j = 1) : EQn k' m' :=
  EQn_fr h fk fm h1 h2 (fun j hj => Or.inr (h3 j hj)) h4 h5 (fun j hj => Or.inr (h6 j hj)) h7 (fun i hi => by
    rw [fr_M fk 0 (fun x => by have := h3 0 x; omega), fr_M fm 0 (fun x => by have := h6 0 x; omega)]; exact h.1 i hi)
theorem DR_EQn {k m : z_Sg} (h : DR k m) : EQn k m := by
  obtain ⟨hS, h4, h5, _, h6, h7, h8, _⟩ := h
  refine ⟨fun i hi => Sim_r hS hi, fun j hj => ?_, Sim_c hS, ⟨0, by omega, h5, fun j hj => by omega, fun y => Sim_m hS y⟩, h4, h6, h7, h8⟩
  have : j = 0 ∨ j = 1 ∨ j = 2 ∨ j = 3 ∨ j = 4 ∨ j = 5 := by omega
  rcases this with rfl | rfl | rfl | rfl | rfl | rfl
  · exact Sim_0 hS
  · exact Sim_1 hS
  · exact Sim_2 hS
  · exact Sim_3 hS
  · exact Sim_4 hS
  · exact Sim_5 hS
theorem nI_inj0 {w : Nat} (hw : w ≤ 8) (h : nI w = 0) : w = 0 := by
  have : ∀ w, w ≤ 8 → nI w = 0 → w = 0 := by decide +kernel
  exact this w hw h
theorem EQ_Sim {k m : z_Sg} (h : EQ k m) (h5 : z_gI m 5 = 0) : Sim k m := by
  obtain ⟨⟨s0, s1, s2, ⟨w, w1, w2, w3, w4⟩, s4, s5, s6, s7⟩, f, u, g⟩ := h
  have : w = 0 := nI_inj0 w1 (by rw [← w2]; exact h5)
  subst this
  exact ⟨s0, s1 0 (by omega), s1 1 (by omega), s1 2 (by omega), s1 3 (by omega), s1 4 (by omega), s1 5 (by omega), s2, u, f, w4⟩
theorem upd_at (f : Nat → Int64) (i : Nat) (v : Int64) (j : Nat) : vp_updL f i v j = if j = i then v else f j := rfl
theorem gM_s0 (q : z_Sg) (i : Nat) (v : Int64) (j : Nat) : z_gM (z_sM q 0 i v) 0 j = if j = i then v else z_gM q 0 j := rfl
theorem EQn_reg {k m : z_Sg} (h : EQn k m) (i : Nat) (v : Int64) : EQn (z_sM k 0 i v) (z_sM m 0 i v) :=
  EQn_fr (Lk := []) (Ik := []) (Mk := [0]) (Nk := []) (Lm := []) (Im := []) (Mm := [0]) (Nm := []) h (fr_sM fr_0 (by decide)) (fr_sM fr_0 (by decide)) (by decide) (by decide) (by decide) (by decide) (by decide) (by decide) (by decide) (fun j hj => by
    rw [gM_s0, gM_s0, h.1 j hj])
theorem put_r {k m : z_Sg} (h : EQn k m) {j n : Nat} (hj : j < 16) (h1 : 1 ≤ n) (hn : n ≤ 8) {v v' : Int64} (hv : em n v v') : ∃ k' m', f_Op_putPart (nI j) v (nI n) k = some k' ∧ f_Mo_put8 (nI j) (nI n) v' m = some m' ∧ EQn k' m' ∧ fr [] [] [0] [] k k' ∧ fr [] [] [0] [] m m' := by
  refine ⟨_, _, K_putPart hj h1 hn v, M_put8 hj hn (EQn_a h) v', ?_, fr_sM fr_0 (by decide), fr_sM fr_0 (by decide)⟩
  rw [EQn_x h, wv_low ((em_iff hn v v').mp hv), wv_eq h.1 _ _ hj]
  exact EQn_reg h _ _
theorem get_r {k m : z_Sg} (h : EQn k m) {j n : Nat} (hj : j < 16) (h1 : 1 ≤ n) (hn : n ≤ 8) : ∃ v, f_Op_part (nI j) (nI n) k = some v ∧ f_Mo_get8 (nI j) (nI n) m = some v ∧ v &&& mk n = v := by
  refine ⟨_, K_part hj h1 hn, ?_, ?_⟩
  · rw [M_get8 hj hn, EQn_x h, rg_eq h.1 _ _ hj]
  · unfold rgN
    by_cases hh : hi8 (z_gI k 6) j n
    · rw [if_pos hh]
      have : n = 1 := hh.1
      subst this
      show ((z_lushr (z_gM k 0 (j - 4)) 8) &&& 255) &&& 255 = _
      exact and_mk2 (z_lushr (z_gM k 0 (j - 4)) 8) 1
    · rw [if_neg hh, and_mk2]
theorem or_plus : ∀ r, r < 8 → (nI r ||| nI 0 = nI r ∧ nI r + nI 0 = nI r ∧ nI r ||| nI 8 = nI (r + 8) ∧ nI r + nI 8 = nI (r + 8)) := by decide +kernel
theorem rno {k m : z_Sg} (h : z_gI k 6 = z_gI m 10) (bit : Int32) {r : Nat} (hr : r < 8) : ∃ e j, j < 16 ∧ f_De_extension bit k = some e ∧ f_Mo_plus bit m = some e ∧ nI r ||| e = nI j ∧ nI r + e = nI j ∧ (j = r ∨ j = r + 8) := by
  obtain ⟨e, he, h1, h2⟩ := ext_eq h bit
  obtain ⟨o1, o2, o3, o4⟩ := or_plus r hr
  rcases he with rfl | rfl
  · exact ⟨_, r, by omega, h1, h2, o1, o2, Or.inl rfl⟩
  · exact ⟨_, r + 8, by omega, h1, h2, o3, o4, Or.inr rfl⟩
def SP (n : Nat) (k m : z_Sg) : Prop := z_gI k 12 = 3 ∨ (z_gI k 16 = nI n ∧ ∀ i, i < n → z_gM k 2 i = z_gM m 3 i ∧ ¬ z_gM m 3 i < 0)
def ME (n : Nat) (k m : z_Sg) : Prop := MR k m ∧ z_gI k 15 = nI n ∧ SP n k m
theorem ME_fr {n : Nat} {k m k' m' : z_Sg} (h : ME n k m) {Lk Ik Mk Nk Lm Im Mm Nm : List Nat} (fk : fr Lk Ik Mk Nk k k') (fm : fr Lm Im Mm Nm m m') (h1 : ∀ j ∈ Ik, j ≠ 12 ∧ j ≠ 13 ∧ j ≠ 14 ∧ j ≠ 15 ∧ j ≠ 16) (h2 : 2 ∉ Mk) (h3 : ∀ j ∈ Im, j ≠ 7 ∧ j ≠ 8 ∧ j ≠ 9) (h4 : 3 ∉ Mm) : ME n k' m' := by
  obtain ⟨⟨b, hb, e1, e2, e3, e4, e5, e6⟩, e15, hsp⟩ := h
  have ki : ∀ j, (j = 12 ∨ j = 13 ∨ j = 14 ∨ j = 15 ∨ j = 16) → z_gI k' j = z_gI k j := fun j hj => fr_I fk j (fun x => by have := h1 j x; omega)
  have mi : ∀ j, (j = 7 ∨ j = 8 ∨ j = 9) → z_gI m' j = z_gI m j := fun j hj => fr_I fm j (fun x => by have := h3 j x; omega)
  refine ⟨⟨b, hb, ?_, ?_, ?_, ?_, ?_, ?_⟩, ?_, ?_⟩
  · rw [ki 12 (by omega)]; exact e1
  · rw [mi 7 (by omega)]; exact e2
  · rw [ki 13 (by omega)]; exact e3
  · rw [mi 8 (by omega)]; exact e4
  · rw [ki 14 (by omega)]; exact e5
  · rw [mi 9 (by omega)]; exact e6
  · rw [ki 15 (by omega)]; exact e15
  · unfold SP
    rw [ki 12 (by omega), ki 16 (by omega), fr_M fk 2 h2, fr_M fm 3 h4]
    exact hsp
theorem MR_3 {k m : z_Sg} (h : MR k m) : (z_gI k 12 = 3 ↔ z_gI m 7 = 3) := by
  obtain ⟨b, hb, e1, e2, _⟩ := h
  rw [e1, e2]
theorem g_r {k m : z_Sg} (h : EQn k m) (hM : MR k m) {n : Nat} (h1 : 1 ≤ n) (hn : n ≤ 8) : ∃ v, f_Op_g (nI n) k = some v ∧ f_Mo_g (nI n) m = some v ∧ v &&& mk n = v := by
  obtain ⟨b, hb, e1, e2, e3, e4, e5, e6⟩ := hM
  obtain ⟨e, j, hj, x1, x2, x3, x4, _⟩ := rno (EQn_x h) 4 (show b / 8 % 8 < 8 by omega)
  obtain ⟨v, g1, g2, g3⟩ := get_r h hj h1 hn
  refine ⟨v, ?_, ?_, g3⟩
  · unfold f_Op_g f_De_registerG
    rw [x1, po_bs2, po_bs2, e3, x3, g1, po_bs2]
  · unfold f_Mo_g
    rw [x2, po_bs2, e4, x4, g2, po_bs2]
theorem putG_r {k m : z_Sg} (h : EQn k m) (hM : MR k m) {n : Nat} (h1 : 1 ≤ n) (hn : n ≤ 8) {v v' : Int64} (hv : em n v v') : ∃ k' m', f_Op_putG v (nI n) k = some k' ∧ f_Mo_setG (nI n) v' m = some m' ∧ EQn k' m' ∧ fr [] [] [0] [] k k' ∧ fr [] [] [0] [] m m' := by
  obtain ⟨b, hb, e1, e2, e3, e4, e5, e6⟩ := hM
  obtain ⟨e, j, hj, x1, x2, x3, x4, _⟩ := rno (EQn_x h) 4 (show b / 8 % 8 < 8 by omega)
  obtain ⟨k', m', p1, p2, p3, p4, p5⟩ := put_r h hj h1 hn hv
  refine ⟨k', m', ?_, ?_, p3, p4, p5⟩
  · unfold f_Op_putG f_De_registerG
    rw [x1, po_bs2, po_bs2, e3, x3, p1, po_bs2]
  · unfold f_Mo_setG
    rw [x2, po_bs2, e4, x4, p2, po_bs2]
theorem mB_8 (f : Nat → Int32) (x : Int64) (b : Nat) (hb : 8 ≤ b) : tI (mB f x) b = false := by
  unfold mB
  split
  · exact tI_0 b
  · split
    · rw [tI_and, tI_255, decide_eq_false (by omega), Bool.and_false]
    · exact tI_0 b
theorem asm_mk {f : Nat → Int32} (hf : ∀ k b, 8 ≤ b → tI (f k) b = false) {n : Nat} (hn : n ≤ 8) : asm f n &&& mk n = asm f n := tb_ext (fun i hi => by
  rw [tb_and, tb_mk hn i hi, tb_asm hf hn]
  by_cases c : i < 8 * n
  · rw [decide_eq_true c, Bool.and_true]
  · rw [decide_eq_false c, Bool.and_false]; rfl)
theorem setE_r {k m : z_Sg} (h : EQn k m) (h5 : z_gI m 5 = 0) {n : Nat} (hM : ME n k m) (h1 : 1 ≤ n) (hn : n ≤ 8) {v v' : Int64} (hv : em n v v') : ∃ k' m', f_Op_put v k = some k' ∧ f_Mo_setE (nI n) v' m = some m' ∧ EQn k' m' ∧ fr [] [] [0, 1] [] k k' ∧ fr [] [5] [0, 2] [3] m m' ∧ (z_gI k 12 = 3 → fr [] [] [0] [] k k' ∧ fr [] [] [0] [] m m') := by
  obtain ⟨hR, e15, hsp⟩ := hM
  by_cases c3 : z_gI k 12 = 3
  · obtain ⟨b, hb, e1, e2, e3, e4, e5, e6⟩ := hR
    have c3' : z_gI m 7 = 3 := by rw [e2, ← e1]; exact c3
    obtain ⟨e, j, hj, x1, x2, x3, x4, _⟩ := rno (EQn_x h) 1 (show b % 8 < 8 by omega)
    obtain ⟨k', m', p1, p2, p3, p4, p5⟩ := put_r h hj h1 hn hv
    refine ⟨k', m', ?_, ?_, p3, fr_w p4 (by decide) (by decide) (by decide) (by decide), fr_w p5 (by decide) (by decide) (by decide) (by decide), fun _ => ⟨p4, p5⟩⟩
    · unfold f_Op_put f_De_registerE
      rw [if_pos c3, x1, po_bs2, po_bs2, e5, x3, e15, p1, po_bs2]; rfl
    · unfold f_Mo_setE
      rw [if_pos c3', x2, po_bs2, e6, x4, p2, po_bs2]; rfl
  · have c3' : ¬ z_gI m 7 = 3 := fun x => c3 ((MR_3 hR).mpr x)
    rcases hsp with hsp | ⟨hl, hs⟩
    · exact absurd hsp c3
    obtain ⟨k', p1, p2, p3⟩ := K_put_7 hn hl v
    obtain ⟨m', q1, q2, q3, q4⟩ := M_hold hn (EQn_a h) h5 v'
    obtain ⟨w, w1, w2, w3, w4⟩ := EQn_w h
    have hw0 : w = 0 := nI_inj0 w1 (by rw [← w2]; exact h5)
    subst hw0
    refine ⟨k', m', ?_, ?_, ?_, fr_w p2 (by decide) (by decide) (by decide) (by decide), fr_w q2 (by decide) (by decide) (by decide) (by decide), fun x => absurd x c3⟩
    · unfold f_Op_put
      rw [if_neg c3, p1, po_bs2]; rfl
    · unfold f_Mo_setE
      rw [if_neg c3', q1, po_bs2]; rfl
    · refine ⟨fun i hi => ?_, fun j hj => ?_, ?_, ⟨n, hn, q3, ?_, ?_⟩, ?_, ?_, ?_, ?_⟩
      · rw [fr_M p2 0 (by decide), fr_M q2 0 (by decide)]; exact h.1 i hi
      · rw [fr_L p2 j (by simp), fr_L q2 j (by simp)]; exact h.2.1 j hj
      · rw [fr_I p2 1 (by decide), fr_I q2 0 (by decide)]; exact h.2.2.1
      · intro j hj
        rw [(q4 j hj).1]
        exact (hs j hj).2
      · intro y
        rw [p3 y, fr_N q2 0 (by decide)]
        refine bw_congr (fun y => w4 y) (fun j hj => ⟨?_, ?_⟩) y
        · rw [(q4 j hj).1]; exact (hs j hj).1
        · rw [(q4 j hj).2]
          refine tI_ext (fun i hi => ?_)
          rw [tI_and, tI_and, tI_255, tI_l2i, tI_l2i, tb_and, tb_255, tb_ushr _ _ (by omega), tb_ushr _ _ (by omega), decide_eq_true hi]
          by_cases c8 : i < 8
          · rw [decide_eq_true c8, hv (i + 8 * j) (by omega)]; simp
          · rw [decide_eq_false c8]; simp
      · rw [fr_I q2 4 (by decide)]; exact EQn_a h
      · rw [fr_I p2 6 (by decide), fr_I q2 10 (by decide)]; exact EQn_x h
      · rw [fr_I p2 10 (by decide), fr_I q2 11 (by decide)]; exact EQn_p h
      · rw [fr_I p2 5 (by decide), fr_I q2 16 (by decide)]; exact EQn_s h
