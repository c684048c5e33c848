theorem g_xadd {k0 k m : z_Sg} {n : Nat} (hc : n = 448 ∨ n = 449) (h : TQ (nI n) k0 k m) : z_r k0 ((k_De_decode_43 (-1) 2 k).bind S1) (e_f_Mo_addAndChange (nI (szO n (z_gI m 10) (z_gI m 16))) m) FQQ := by
  have gen : ∀ n, n = 448 ∨ n = 449 → n < 512 ∧ 256 ≤ n ∧ oE n = true ∧ eE n = true ∧ flE n = true ∧ twE n = true := by
    rintro n (rfl | rfl) <;> decide
  obtain ⟨n1, n2, n3, n4, n5, n6⟩ := gen n hc
  obtain ⟨s1, s8⟩ := szO_in n (z_gI m 10) (z_gI m 16)
  unfold e_f_Mo_addAndChange
  refine run_o n1 n3 h (fun k2 m1 hq g6 g5 e10 e16 => ?_)
  refine run_e n1 n4 hq (Or.inr rfl) s1 s8 ?_ (fun k' e _ => ?_) (fun k3 m3 v q1 q2 q3 q4 q5 q6 q7 q8 q9 q10 => ?_)
  · have e := hq.1.2.2.2.1
    rcases hc with rfl | rfl
    · unfold f_Op_bytesOfE; rw [e]; rfl
    · rw [be_2 (n := 449) (by decide) (by decide) (by decide) e, if_neg (by decide), g6, g5]; rfl
  · rcases hc with rfl | rfl <;> (unfold f_Op_isWritten; rw [e]; rfl)
  · refine ex_2 n2 n1 n5 q5 ?_
    rw [tw_s n1 n2 n6 q5]
    have ee : f_Tw_executeSingle (nI (n - 256)) k3 = (f_De_sizeV k3).bind (fun r1 => k_Tw_executeSingle_313 k3) := by
      rcases hc with rfl | rfl <;> rfl
    rw [ee, K_sizeV, po_bs2]
    unfold k_Tw_executeSingle_313 f_Tw_changeAndAdd
    obtain ⟨gw, gw1, gw2, _⟩ := g_r q1.1.1 q2.1 s1 s8
    obtain ⟨w, k4, m4, a1, a2, a3, _⟩ := sum_r q1.1.2.1 false s1 s8 (em_r _ v) (em_r _ gw)
    obtain ⟨k5, m5, b1, b2, b3, b4, b5⟩ := wG (EQ_FU q1.1 a3) (MR_FU q2.1 a3) s1 s8 (em_r _ v)
    have h5 : z_gI m5 5 = 0 := by rw [fr_I b5 5 (by decide)]; exact FU_5 a3 q1.2.1
    obtain ⟨k6, m6, c1, c2, c3, _⟩ := wE b3 h5 (ME_fr (ME_FU q2 a3) b4 b5 (by decide) (by decide) (by decide) (by decide)) s1 s8 (em_r _ w)
    rw [po_nm2, q2.2.1, q3, po_bs2, gw1, po_bs2, show (0 : Int64) = bL false from rfl, a1, po_bs2, b1, po_bs2, c1]
    refine r_M gw2 (r_M a2 (r_M b2 (r_M c2 ?_)))
    exact fin2 c3
def oM (m m' : z_Sg) : Prop := (∀ i, i < 16 → z_gM m' 0 i = z_gM m 0 i) ∧ (∀ j, j < 6 → z_gL m' j = z_gL m j) ∧ z_gL m' 7 = z_gL m 7 ∧ (∀ j, (j = 0 ∨ j = 2 ∨ j = 4 ∨ j = 5 ∨ j = 10 ∨ j = 11 ∨ j = 16) → z_gI m' j = z_gI m j) ∧ z_gN m' 0 = z_gN m 0 ∧ z_gN m' 1 = z_gN m 1 ∧ ∃ w, w ≤ 8 ∧ z_gI m 5 = nI w ∧ ∀ j, j < w → z_gM m' 2 j = z_gM m 2 j ∧ z_gN m' 3 j = z_gN m 3 j
theorem nI_e8 {a b : Nat} (ha : a ≤ 8) (hb : b ≤ 8) (h : nI a = nI b) : a = b := by
  have : ∀ a, a ≤ 8 → ∀ b, b ≤ 8 → nI a = nI b → a = b := by decide +kernel
  exact this a ha b hb h
theorem EQ_oM {k m m' : z_Sg} (h : EQ k m) (ho : oM m m') : EQ k m' := by
  obtain ⟨⟨s0, s1, s2, ⟨w, w1, w2, w3, w4⟩, s4, s5, s6, s7⟩, f, u, g⟩ := h
  obtain ⟨o0, o1, o2, o3, o4, o5, v, v1, v2, v3⟩ := ho
  have hv : v = w := nI_e8 v1 w1 (by rw [← v2, ← w2])
  subst hv
  refine ⟨⟨fun i hi => (s0 i hi).trans (o0 i hi).symm, fun j hj => (s1 j hj).trans (o1 j hj).symm, s2.trans (o3 0 (by omega)).symm, ⟨v, v1, (o3 5 (by omega)).trans w2, fun j hj => by rw [(v3 j hj).1]; exact w3 j hj, fun y => ?_⟩, (o3 4 (by omega)).trans s4, s5.trans (o3 10 (by omega)).symm, s6.trans (o3 11 (by omega)).symm, s7.trans (o3 16 (by omega)).symm⟩, by rw [o5]; exact f, u.trans (o3 2 (by omega)).symm, g.trans o2.symm⟩
  rw [w4 y, o4]
  exact bw_congr (fun _ => rfl) (fun j hj => ⟨(v3 j hj).1.symm, by rw [(v3 j hj).2]⟩) y
theorem wv_at {R R' : Nat → Int64} {rex : Int32} {j n : Nat} (h : R (wiN rex j n) = R' (wiN rex j n)) (v : Int64) : wvN R rex j n v = wvN R' rex j n v := by
  unfold wvN wiN at *
  by_cases c : hi8 rex j n
  · rw [if_pos c] at h
    rw [if_pos c, if_pos c, h]
  · rw [if_neg c] at h
    rw [if_neg c, if_neg c, h]
theorem put_comm {R : Nat → Int64} {rex : Int32} {j n : Nat} (h1 : 1 ≤ n) (hn : n ≤ 8) (hj : hi8 rex j n ∨ ¬ j = 0) (x y : Int64) (i : Nat) : (if i = wiN rex j n then wvN (fun a => if a = wiN rex 0 n then wvN R rex 0 n x else R a) rex j n y else if i = wiN rex 0 n then wvN R rex 0 n x else R i) = (if i = wiN rex 0 n then wvN (fun a => if a = wiN rex j n then wvN R rex j n y else R a) rex 0 n x else if i = wiN rex j n then wvN R rex j n y else R i) := by
  have h0 : ¬ hi8 rex 0 n := fun x => by have := x.2.2.1; omega
  have w0 : wiN rex 0 n = 0 := by unfold wiN; rw [if_neg h0]
  by_cases c : wiN rex j n = wiN rex 0 n
  · rw [w0] at c
    have hh : hi8 rex j n := by
      rcases hj with h | h
      · exact h
      · by_cases d : hi8 rex j n
        · exact d
        · unfold wiN at c
          rw [if_neg d] at c
          exact absurd c h
    have j4 : j = 4 := by
      unfold wiN at c
      rw [if_pos hh] at c
      have := hh.2.2.1
      omega
    have n1 : n = 1 := hh.1
    subst n1 j4
    rw [c, w0]
    by_cases ci : i = 0
    · rw [if_pos ci, if_pos ci]
      unfold wvN
      rw [if_pos hh, if_neg h0, if_neg h0, if_pos hh, if_neg (by decide), if_neg (by decide)]
      show ((if (0 : Nat) = 0 then (R 0 &&& (mk 1 ^^^ -1)) ||| (x &&& mk 1) else R 0) &&& -65281) ||| z_lshl (y &&& 255) 8 = ((if (0 : Nat) = 0 then (R 0 &&& -65281) ||| z_lshl (y &&& 255) 8 else R 0) &&& (mk 1 ^^^ -1)) ||| (x &&& mk 1)
      rw [if_pos rfl, if_pos rfl]
      have m1 : ∀ b, b < 64 → tb (-65281) b = !(decide (8 ≤ b ∧ b < 16)) := by decide +kernel
      refine tb_ext (fun b hb => ?_)
      rw [tb_or, tb_and, tb_or, tb_and, tb_and, tb_xor, tb_or, tb_and, tb_or, tb_and, tb_and, tb_xor, tb_mk (by decide) b hb, tb_m1, m1 b hb, show (8 : Int32) = nI 8 from rfl, tb_shl _ _ (by decide), tb_and, tb_255, decide_eq_true hb]
      by_cases b8 : b < 8
      · rw [decide_eq_true (show b < 8 by omega), decide_eq_false (show ¬ (8 ≤ b ∧ b < 16) by omega)]; simp
      · by_cases b16 : b < 16
        · rw [decide_eq_false (show ¬ b < 8 by omega), decide_eq_true (show (8 ≤ b ∧ b < 16) by omega), decide_eq_true (show b - 8 < 8 by omega)]; simp
        · rw [decide_eq_false (show ¬ b < 8 by omega), decide_eq_false (show ¬ (8 ≤ b ∧ b < 16) by omega), decide_eq_false (show ¬ b - 8 < 8 by omega)]; simp
    · rw [if_neg ci, if_neg ci, if_neg ci, if_neg ci]
  · by_cases c1 : i = wiN rex j n
    · rw [if_pos c1, if_neg (fun x => c (c1.symm.trans x)), if_pos c1]
      exact wv_at (by show (if wiN rex j n = wiN rex 0 n then _ else _) = _; rw [if_neg c]) y
    · rw [if_neg c1]
      by_cases c2 : i = wiN rex 0 n
      · rw [if_pos c2, if_pos c2]
        exact (wv_at (by show (if wiN rex 0 n = wiN rex j n then _ else _) = _; rw [if_neg (fun x => c x.symm)]) x).symm
      · rw [if_neg c2, if_neg c2, if_neg c1]
theorem em_sub0 {n : Nat} (h8 : n ≤ 8) (a b : Int64) : zF (adV true a b false) n = true ↔ em n a b := by
  have e0 : adV true b b false = 0 := by
    show (b - b) - 0 = 0
    rw [Int64.sub_self, Int64.sub_zero]
  have e1 : adV false (adV true a b false) b false = a := by
    show ((a - b - 0) + b) + 0 = a
    rw [Int64.sub_zero, Int64.add_zero, Int64.sub_add_cancel]
  have e2 : adV false 0 b false = b := by
    show (0 + b) + 0 = b
    rw [Int64.add_zero, Int64.zero_add]
  unfold zF
  rw [decide_eq_true_iff]
  constructor
  · intro h
    have : em n (adV true a b false) 0 := (em_iff h8 _ _).mpr (by rw [h]; exact (tb_ext (fun i _ => by rw [tb_and, tb_0]; rfl)))
    have := em_adV h8 this (em_r n b) false false
    rw [e1, e2] at this
    exact this
  · intro h
    have := em_adV h8 h (em_r n b) true false
    rw [e0] at this
    rw [(em_iff h8 _ _).mp this]
    exact tb_ext (fun i _ => by rw [tb_and, tb_0]; rfl)
theorem cx_else {k m : z_Sg} (h : EQ k m) (h5 : z_gI m 5 = 0) {n : Nat} (hM : ME n k m) (h1 : 1 ≤ n) (hn : n ≤ 8) (v : Int64) (hne : z_gI k 12 = 3 → ∀ j, j < 16 → (∃ e, f_De_extension 1 k = some e ∧ z_gI k 14 ||| e = nI j) → hi8 (z_gI k 6) j n ∨ ¬ j = 0) : ∃ k1 k2 m1 m2, f_Op_putPart 0 v (nI n) k = some k1 ∧ f_Op_put v k1 = some k2 ∧ f_Mo_setE (nI n) v m = some m1 ∧ f_Mo_put8 0 (nI n) v m1 = some m2 ∧ EQ k2 m2 := by
  obtain ⟨k1, ma, a1, a2, a3, a4, a5⟩ := wA (j := 0) h (by decide) h1 hn (em_r n v)
  have ha5 : z_gI ma 5 = 0 := by rw [fr_I a5 5 (by decide)]; exact h5
  have hMa : ME n k1 ma := ME_fr hM a4 a5 (by decide) (by decide) (by decide) (by decide)
  obtain ⟨k2, mb, b1, b2, b3, b4, b5⟩ := wE a3 ha5 hMa h1 hn (em_r n v)
  obtain ⟨ke, m1, c1, c2, c3, c4, c5⟩ := wE h h5 hM h1 hn (em_r n v)
  have al1 : z_gI m1 4 = -1 := EQn_a c3.1
  refine ⟨k1, k2, m1, _, a1, b1, c2, M_put8 (j := 0) (by decide) hn al1 v, EQ_oM b3 ?_⟩
  have ema : ma = z_sM m 0 (wiN (z_gI m 10) 0 n) (wvN (z_gM m 0) (z_gI m 10) 0 n v) := by
    have := M_put8 (m := m) (j := 0) (n := n) (by decide) hn (EQn_a h.1) v
    rw [a2] at this
    exact Option.some.inj this
  by_cases c3' : z_gI k 12 = 3
  ·
    obtain ⟨b, hb, e1, e2, e3, e4, e5, e6⟩ := hM.1
    have m7 : z_gI m 7 = 3 := by rw [e2, ← e1]; exact c3'
    obtain ⟨e, j, hj, x1, x2, x3, x4, _⟩ := rno (EQn_x h.1) 1 (show b % 8 < 8 by omega)
    have hh := hne c3' j hj ⟨e, x1, by rw [e5]; exact x3⟩
    rw [EQn_x h.1] at hh
    have em1 : m1 = z_sM m 0 (wiN (z_gI m 10) j n) (wvN (z_gM m 0) (z_gI m 10) j n v) := by
      unfold f_Mo_setE at c2
      rw [if_pos m7, x2, po_bs2, e6, x4, M_put8 hj hn (EQn_a h.1), po_bs2] at c2
      exact (Option.some.inj c2).symm
    have emb : mb = z_sM ma 0 (wiN (z_gI m 10) j n) (wvN (z_gM ma 0) (z_gI m 10) j n v) := by
      unfold f_Mo_setE at b2
      have p7 : z_gI ma 7 = 3 := by rw [fr_I a5 7 (by decide)]; exact m7
      have p9 : z_gI ma 9 = nI (b % 8) := by rw [fr_I a5 9 (by decide)]; exact e6
      have p10 : z_gI ma 10 = z_gI m 10 := fr_I a5 10 (by decide)
      have pp : f_Mo_plus 1 ma = some e := by
        rw [← x2]
        unfold f_Mo_plus k_Mo_plus_15
        rw [p10]
      rw [if_pos p7, pp, po_bs2, p9, x4, M_put8 hj hn (EQn_a a3.1), po_bs2, p10] at b2
      exact (Option.some.inj b2).symm
    rw [em1, emb, ema]
    refine ⟨fun i _ => ?_, fun _ _ => rfl, rfl, fun _ _ => rfl, rfl, rfl, 0, by omega, h5, fun j hj => by omega⟩
    exact (put_comm h1 hn hh v v i).symm
  ·
    have m7 : ¬ z_gI m 7 = 3 := fun x => c3' ((MR_3 hM.1).mpr x)
    obtain ⟨mh, q1, q2, q3, q4⟩ := M_hold hn (EQn_a h.1) h5 v
    obtain ⟨mg, r1, r2, r3, r4⟩ := M_hold hn (EQn_a a3.1) ha5 v
    have em1 : m1 = mh := by
      unfold f_Mo_setE at c2
      rw [if_neg m7, q1, po_bs2] at c2
      exact (Option.some.inj c2).symm
    have emb : mb = mg := by
      unfold f_Mo_setE at b2
      rw [if_neg (by rw [fr_I a5 7 (by decide)]; exact m7), r1, po_bs2] at b2
      exact (Option.some.inj b2).symm
    subst em1 emb
    have r0 : z_gM m1 0 = z_gM m 0 := fr_M q2 0 (by decide)
    have i10 : z_gI m1 10 = z_gI m 10 := fr_I q2 10 (by decide)
    refine ⟨fun i _ => ?_, fun j hj => ?_, ?_, fun j hj => ?_, ?_, ?_, n, hn, r3, fun j hj => ⟨?_, ?_⟩⟩
    · rw [fr_M r2 0 (by decide), ema, i10, r0]
      show (if i = _ then _ else z_gM m1 0 i) = (if i = _ then _ else z_gM m 0 i)
      rw [r0]
    · show z_gL m1 j = z_gL mb j
      rw [fr_L q2 j (by simp), fr_L r2 j (by simp), fr_L a5 j (by simp)]
    · show z_gL m1 7 = z_gL mb 7
      rw [fr_L q2 7 (by simp), fr_L r2 7 (by simp), fr_L a5 7 (by simp)]
    · show z_gI m1 j = z_gI mb j
      by_cases c : j = 5
      · subst c; rw [q3, r3]
      · rw [fr_I q2 j (by simpa using c), fr_I r2 j (by simpa using c), fr_I a5 j (by simp)]
    · show z_gN m1 0 = z_gN mb 0
      rw [fr_N q2 0 (by decide), fr_N r2 0 (by decide), fr_N a5 0 (by decide)]
    · show z_gN m1 1 = z_gN mb 1
      rw [fr_N q2 1 (by decide), fr_N r2 1 (by decide), fr_N a5 1 (by decide)]
    · show z_gM m1 2 j = z_gM mb 2 j
      rw [(q4 j hj).1, (r4 j hj).1, fr_M a5 3 (by decide)]
    · show z_gN m1 3 j = z_gN mb 3 j
      rw [(q4 j hj).2, (r4 j hj).2]
theorem g_cmpx {k0 k m : z_Sg} {n : Nat} (hc : n = 432 ∨ n = 433) (h : TQ (nI n) k0 k m) : z_r k0 ((k_De_decode_43 (-1) 2 k).bind S1) (e_f_Mo_compareAndChange (nI (szO n (z_gI m 10) (z_gI m 16))) m) FQQ := by
  have gen : ∀ n, n = 432 ∨ n = 433 → n < 512 ∧ 256 ≤ n ∧ oE n = true ∧ eE n = true ∧ flE n = true ∧ twE n = true := by
    rintro n (rfl | rfl) <;> decide
  obtain ⟨n1, n2, n3, n4, n5, n6⟩ := gen n hc
  obtain ⟨s1, s8⟩ := szO_in n (z_gI m 10) (z_gI m 16)
  unfold e_f_Mo_compareAndChange
  refine run_o n1 n3 h (fun k2 m1 hq g6 g5 e10 e16 => ?_)
  refine run_e n1 n4 hq (Or.inr rfl) s1 s8 ?_ (fun k' e _ => ?_) (fun k3 m3 v q1 q2 q3 q4 q5 q6 q7 q8 q9 q10 => ?_)
  · have e := hq.1.2.2.2.1
    rcases hc with rfl | rfl
    · unfold f_Op_bytesOfE; rw [e]; rfl
    · rw [be_2 (n := 433) (by decide) (by decide) (by decide) e, if_neg (by decide), g6, g5]; rfl
  · rcases hc with rfl | rfl <;> (unfold f_Op_isWritten; rw [e]; rfl)
  · refine ex_2 n2 n1 n5 q5 ?_
    rw [tw_s n1 n2 n6 q5]
    have ee : f_Tw_executeSingle (nI (n - 256)) k3 = (f_De_sizeV k3).bind (fun r1 => k_Tw_executeSingle_233 k3) := by
      rcases hc with rfl | rfl <;> rfl
    rw [ee, K_sizeV, po_bs2]
    generalize hs : szO n (z_gI m 10) (z_gI m 16) = s at *
    unfold k_Tw_executeSingle_233 f_Tw_compareAndChange
    obtain ⟨av, av1, av2, av3⟩ := get_r (j := 0) q1.1.1 (by decide) s1 s8
    obtain ⟨w, k4, m4, a1, a2, a3, _⟩ := dif_r q1.1.2.1 false s1 s8 (em_r _ av) (em_r _ v)
    have hz : z_gN m4 1 3 = b2i (zF (adV true av v false) s) := by
      rw [show (1 : Int32) = b2i true from rfl, M_add2 true av v false s1 s8] at a2
      have : rsF (adV true av v false) s (adF true av v false s m3) = m4 := (Prod.ext_iff.mp (Option.some.inj a2)).2
      rw [← this]
      rfl
    have av1' : f_Op_part 0 (nI s) k3 = some av := av1
    have a1' : f_Ar_difference av v 0 (nI s) k3 = some (w, k4) := a1
    rw [po_nm2, q2.2.1, q3, po_bs2, av1', po_bs2, a1', po_bs2]
    refine r_M av2 (r_M a2 ?_)
    rw [if_neg (show ¬ z_bad (3 : Int32) 7 by decide)]
    show z_r k0 _ (if z_gN m4 1 3 = 0 then _ else _) FQQ
    rw [hz]
    have hE := EQ_FU q1.1 a3
    have hiff : av = v ↔ zF (adV true av v false) s = true := by
      rw [em_sub0 s8, em_iff s8, av3, q4]
    by_cases c : av = v
    · rw [if_pos c, hiff.mp c, if_neg (show ¬ b2i true = 0 by decide)]
      obtain ⟨gw, gw1, gw2, _⟩ := g_r hE.1 (MR_FU q2.1 a3) s1 s8
      obtain ⟨k5, m5, b1, b2, b3, _⟩ := wE hE (FU_5 a3 q1.2.1) (ME_FU q2 a3) s1 s8 (em_r _ gw)
      rw [gw1, po_bs2, b1]
      exact r_M gw2 (r_M b2 (fin2 b3))
    · have hf : zF (adV true av v false) s = false := by
        cases hx : zF (adV true av v false) s with
        | true => exact absurd (hiff.mpr hx) c
        | false => rfl
      rw [if_neg c, hf, if_pos (show b2i false = 0 from rfl)]
      obtain ⟨k5, k6, m5, m6, b1, b2, b3, b4, b5⟩ := cx_else hE (FU_5 a3 q1.2.1) (ME_FU q2 a3) s1 s8 v (fun c3 j hj hjj => by
        by_cases hh : hi8 (z_gI k4 6) j s
        · exact Or.inl hh
        · refine Or.inr (fun j0 => c ?_)
          subst j0
          obtain ⟨e, x1, x2⟩ := hjj
          have f12 : z_gI k3 12 = 3 := by rw [← fr_I a3.1 12 (by decide)]; exact c3
          have f14 : z_gI k4 14 = z_gI k3 14 := fr_I a3.1 14 (by decide)
          have fx : f_De_extension 1 k4 = f_De_extension 1 k3 := by
            unfold f_De_extension k_De_extension_15
            rw [fr_I a3.1 6 (by decide)]
          rw [fx] at x1
          rw [f14] at x2
          have hval := q3
          unfold f_Op_value f_De_registerE k_Op_value_36 at hval
          rw [if_pos f12, x1, po_bs2, po_bs2, x2, q2.2.1, av1, po_bs2] at hval
          exact Option.some.inj hval)
      rw [b1, po_bs2, b2]
      exact r_M b3 (r_M b4 (fin2 b5))
