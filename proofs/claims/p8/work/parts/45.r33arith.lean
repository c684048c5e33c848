theorem EQ_FU {k m k' m' : z_Sg} (h : EQ k m) (hF : FU k m k' m') : EQ k' m' := by
  obtain ⟨e1, e2, e3, e4⟩ := h
  obtain ⟨f1, f2, f3⟩ := hF
  refine ⟨EQn_k e1 f1 f2 (by decide) (by decide) (by decide) (by decide) (by decide) (by decide) (by decide), f3, ?_, ?_⟩
  · rw [fr_I f1 2 (by decide), fr_I f2 2 (by decide)]; exact e3
  · rw [fr_L f1 10 (by decide), fr_L f2 7 (by decide)]; exact e4
theorem EQ_put {k m k' m' : z_Sg} (h : EQ k m) (hn : EQn k' m') (fk : fr [] [] [0, 1] [] k k') (fm : fr [] [5] [0, 2] [3] m m') : EQ k' m' := by
  obtain ⟨e1, e2, e3, e4⟩ := h
  refine ⟨hn, ?_, ?_, ?_⟩
  · rw [fr_I fk 0 (by decide), fr_N fm 1 (by decide)]; exact e2
  · rw [fr_I fk 2 (by decide), fr_I fm 2 (by decide)]; exact e3
  · rw [fr_L fk 10 (by decide), fr_L fm 7 (by decide)]; exact e4
theorem wA {k m : z_Sg} (h : EQ k m) {j n : Nat} (hj : j < 16) (h1 : 1 ≤ n) (hn : n ≤ 8) {v v' : Int64} (hv : em n v v') : ∃ k' m', f_Op_putPart (nI j) v (nI n) k = some k' ∧ f_Mo_put8 (nI j) (nI n) v' m = some m' ∧ EQ k' m' ∧ fr [] [] [0] [] k k' ∧ fr [] [] [0] [] m m' := by
  obtain ⟨k', m', p1, p2, p3, p4, p5⟩ := put_r h.1 hj h1 hn hv
  exact ⟨k', m', p1, p2, EQ_put h p3 (fr_w p4 (by decide) (by decide) (by decide) (by decide)) (fr_w p5 (by decide) (by decide) (by decide) (by decide)), p4, p5⟩
theorem wG {k m : z_Sg} (h : EQ k m) (hM : MR k m) {n : Nat} (h1 : 1 ≤ n) (hn : n ≤ 8) {v v' : Int64} (hv : em n v v') : ∃ k' m', f_Op_putG v (nI n) k = some k' ∧ f_Mo_setG (nI n) v' m = some m' ∧ EQ k' m' ∧ fr [] [] [0] [] k k' ∧ fr [] [] [0] [] m m' := by
  obtain ⟨k', m', p1, p2, p3, p4, p5⟩ := putG_r h.1 hM h1 hn hv
  exact ⟨k', m', p1, p2, EQ_put h p3 (fr_w p4 (by decide) (by decide) (by decide) (by decide)) (fr_w p5 (by decide) (by decide) (by decide) (by decide)), p4, p5⟩
theorem wE {k m : z_Sg} (h : EQ k m) (h5 : z_gI m 5 = 0) {n : Nat} (hM : ME n k m) (h1 : 1 ≤ n) (hn : n ≤ 8) {v v' : Int64} (hv : em n v v') : ∃ k' m', f_Op_put v k = some k' ∧ f_Mo_setE (nI n) v' m = some m' ∧ EQ k' m' ∧ fr [] [] [0, 1] [] k k' ∧ fr [] [5] [0, 2] [3] m m' := by
  obtain ⟨k', m', p1, p2, p3, p4, p5, _⟩ := setE_r h.1 h5 hM h1 hn hv
  exact ⟨k', m', p1, p2, EQ_put h p3 p4 p5, p4, p5⟩
theorem ME_FU {n : Nat} {k m k' m' : z_Sg} (h : ME n k m) (hF : FU k m k' m') : ME n k' m' := ME_fr h hF.1 hF.2.1 (by decide) (by decide) (by decide) (by decide)
theorem MR_FU {k m k' m' : z_Sg} (h : MR k m) (hF : FU k m k' m') : MR k' m' := MR_fr h hF.1 hF.2.1 (by decide) (by decide)
theorem FU_5 {k m k' m' : z_Sg} (hF : FU k m k' m') (h : z_gI m 5 = 0) : z_gI m' 5 = 0 := by rw [fr_I hF.2.1 5 (by decide)]; exact h
theorem eb_id {α : Type} (x : Option (Sum z_Dd α)) (g : α → Option α) (hg : ∀ a, g a = some a) : z_eb x (fun r => (g r).bind (fun o => some (.inr o))) = x := by
  cases x with
  | none => rfl
  | some r =>
    cases r with
    | inl d => rfl
    | inr a => show (g a).bind _ = _; rw [hg a]; rfl
theorem nI_7 {j : Nat} (hj : j < 8) : (nI j = 7) ↔ j = 7 := by
  have : ∀ j, j < 8 → ((nI j = 7) ↔ j = 7) := by decide +kernel
  exact this j hj
theorem comb_G {k0 k m : z_Sg} (h : EQ k m) (hM : MR k m) {j s : Nat} (hj : j < 8) (h1 : 1 ≤ s) (h8 : s ≤ 8) {a a' b b' : Int64} (ha : em s a a') (hb : em s b b') : z_r k0 (((k_On_combine_84 (nI j) 1 (nI s) a b k).bind k_On_execute_223).bind S3) ((f_Mo_reckon (nI j) a' b' (nI s) m).bind (fun r7 => if nI j = (7 : Int32) then some (.inr r7.2) else (f_Mo_setG (nI s) r7.1 r7.2).bind (fun r9 => some (.inr r9)))) FQQ := by
  obtain ⟨v, v', k', m', c1, c2, c3, c4⟩ := comb_r h.2.1 (EQn_L h.1 (by decide)) h1 h8 ha hb hj
  unfold k_On_combine_84
  rw [c1, c2, po_bs2, po_bs2]
  by_cases c : j = 7
  · rw [if_pos ((nI_7 hj).mpr c), if_pos ((nI_7 hj).mpr c)]
    exact fin (EQ_FU h c3)
  · rw [if_neg (fun x => c ((nI_7 hj).mp x)), if_neg (fun x => c ((nI_7 hj).mp x)), if_pos rfl]
    obtain ⟨k2, m2, w1, w2, w3, _⟩ := wG (EQ_FU h c3) (MR_FU hM c3) h1 h8 c4
    rw [w1, w2]
    exact fin w3
theorem comb_A {k0 k m : z_Sg} (h : EQ k m) {j s : Nat} (hj : j < 8) (h1 : 1 ≤ s) (h8 : s ≤ 8) {a a' b b' : Int64} (ha : em s a a') (hb : em s b b') : z_r k0 (((k_On_combine_84 (nI j) 2 (nI s) a b k).bind k_On_execute_223).bind S3) ((f_Mo_reckon (nI j) a' b' (nI s) m).bind (fun r7 => if nI j = (7 : Int32) then some (.inr r7.2) else (f_Mo_put8 0 (nI s) r7.1 r7.2).bind (fun r9 => some (.inr r9)))) FQQ := by
  obtain ⟨v, v', k', m', c1, c2, c3, c4⟩ := comb_r h.2.1 (EQn_L h.1 (by decide)) h1 h8 ha hb hj
  unfold k_On_combine_84
  rw [c1, c2, po_bs2, po_bs2]
  by_cases c : j = 7
  · rw [if_pos ((nI_7 hj).mpr c), if_pos ((nI_7 hj).mpr c)]
    exact fin (EQ_FU h c3)
  · rw [if_neg (fun x => c ((nI_7 hj).mp x)), if_neg (fun x => c ((nI_7 hj).mp x)), if_neg (show ¬ (2 : Int32) = 1 by decide), if_pos rfl]
    obtain ⟨k2, m2, w1, w2, w3, _⟩ := wA (j := 0) (EQ_FU h c3) (by decide) h1 h8 c4
    rw [show (0 : Int32) = nI 0 from rfl, w1, w2]
    exact fin w3
theorem comb_E {k0 k m : z_Sg} (h : EQ k m) (h5 : z_gI m 5 = 0) {s : Nat} (hM : ME s k m) {j : Nat} (hj : j < 8) (h1 : 1 ≤ s) (h8 : s ≤ 8) {x2 : Int32} (hx : x2 = 0 ∨ x2 = 3) {a a' b b' : Int64} (ha : em s a a') (hb : em s b b') {c7 : z_Sg → Prop} {d7 : ∀ q, Decidable (c7 q)} (hc : ∀ k' m', FU k m k' m' → (c7 m' ↔ j = 7)) : z_r k0 (((k_On_combine_84 (nI j) x2 (nI s) a b k).bind k_On_execute_223).bind S3) ((f_Mo_reckon (nI j) a' b' (nI s) m).bind (fun r7 => @ite _ (c7 r7.2) (d7 r7.2) (some (.inr r7.2)) ((f_Mo_setE (nI s) r7.1 r7.2).bind (fun r9 => some (.inr r9))))) FQQ := by
  obtain ⟨v, v', k', m', c1, c2, c3, c4⟩ := comb_r h.2.1 (EQn_L h.1 (by decide)) h1 h8 ha hb hj
  have hx1 : ¬ x2 = 1 := by rcases hx with rfl | rfl <;> decide
  have hx2 : ¬ x2 = 2 := by rcases hx with rfl | rfl <;> decide
  unfold k_On_combine_84
  rw [c1, c2, po_bs2, po_bs2]
  by_cases c : j = 7
  · rw [if_pos ((nI_7 hj).mpr c), if_pos ((hc k' m' c3).mpr c)]
    exact fin (EQ_FU h c3)
  · rw [if_neg (fun x => c ((nI_7 hj).mp x)), if_neg (fun x => c ((hc k' m' c3).mp x)), if_neg hx1, if_neg hx2]
    obtain ⟨k2, m2, w1, w2, w3, _⟩ := wE (EQ_FU h c3) (FU_5 c3 h5) (ME_FU hM c3) h1 h8 c4
    rw [w1, w2]
    exact fin w3
theorem K_szO {k : z_Sg} {n : Nat} (hn : n < 256) (ho : z_gI k 11 = nI n) : f_On_sizeByOpcode k = some (nI (szO n (z_gI k 6) (z_gI k 5))) := by
  have c : ∀ n, n < 256 → ((nI n &&& (1 : Int32)) = 0 ↔ n % 2 = 0) := by decide +kernel
  unfold f_On_sizeByOpcode k_On_sizeByOpcode_23 szO
  rw [ho]
  by_cases e : n % 2 = 0
  · rw [if_pos ((c n hn).mpr e), if_pos e]; rfl
  · rw [if_neg (fun x => e ((c n hn).mp x)), if_neg e, K_sizeV, po_bs2]
theorem em_low (x : Int64) {s : Nat} (h8 : s ≤ 8) : em s x (x &&& mk s) := em_s (em_mk h8 x)
theorem on_ar {k : z_Sg} {n : Nat} (hn : n < 64) (ho : z_gI k 11 = nI n) : f_On_execute k = (f_On_combine (nI (n / 8)) (nI (n / 2 % 4)) k).bind k_On_execute_223 := by
  have c : ∀ n, n < 64 → ¬ (nI n &&& (-8 : Int32)) = 144 ∧ ¬ (nI n &&& (-8 : Int32)) = 176 ∧ ¬ (nI n &&& (-8 : Int32)) = 184 ∧ ¬ nI n = 246 ∧ ¬ nI n = 247 ∧ ¬ (64 : Int32) ≤ nI n := by decide +kernel
  have d : ∀ n, n < 64 → (nI n >>> ((3 : Int32) &&& 31)) = nI (n / 8) ∧ ((nI n >>> ((1 : Int32) &&& 31)) &&& (3 : Int32)) = nI (n / 2 % 4) := by decide +kernel
  obtain ⟨c1, c2, c3, c4, c5, c6⟩ := c n hn
  unfold f_On_execute
  rw [ho, if_neg c1, if_neg c2, if_neg c3, if_neg c4, if_neg c5, if_neg c6, (d n hn).1, (d n hn).2]
theorem wr_ar {k : z_Sg} {n : Nat} (hn : n < 64) (ho : z_gI k 11 = nI n) : f_Op_isWritten k = some (if n % 8 < 2 ∧ n < 56 then 1 else 0) := by
  have c : ∀ n, n < 64 → ¬ (64 : Int32) ≤ nI n ∧ ((2 : Int32) ≤ (nI n &&& (7 : Int32)) ↔ ¬ n % 8 < 2) ∧ ((56 : Int32) ≤ nI n ↔ ¬ n < 56) := by decide +kernel
  obtain ⟨c1, c2, c3⟩ := c n hn
  unfold f_Op_isWritten k_Op_isWritten_32 k_Op_isWritten_33
  rw [po_nm2, ho, if_neg c1]
  by_cases d1 : n % 8 < 2
  · rw [if_neg (fun x => c2.mp x d1)]
    by_cases d2 : n < 56
    · rw [if_neg (fun x => c3.mp x d2), if_pos ⟨d1, d2⟩]; rfl
    · rw [if_pos (c3.mpr d2), if_neg (fun x => d2 x.2)]; rfl
  · rw [if_pos (c2.mpr d1), if_neg (fun x => d1 x.1)]; rfl
theorem PO_sz {o : Int32} {k0 k m : z_Sg} (h : PO o k0 k m) : z_gI k 6 = z_gI m 10 ∧ z_gI k 5 = z_gI m 16 := ⟨EQn_x h.1.1.1, EQn_s h.1.1.1⟩
theorem g_fr (x : Int32) {m m' : z_Sg} (h : fr [] [1] [3] [] m m') : f_Mo_g x m' = f_Mo_g x m := by
  have e1 : f_Mo_plus 4 m' = f_Mo_plus 4 m := by
    unfold f_Mo_plus k_Mo_plus_15
    rw [fr_I h 10 (by decide)]
  have e2 : ∀ x y, f_Mo_get8 x y m' = f_Mo_get8 x y m := by
    intro x y
    have e3 : f_Mo_isHigh x y m' = f_Mo_isHigh x y m := by
      unfold f_Mo_isHigh k_Mo_isHigh_27 k_Mo_isHigh_28
      rw [fr_I h 10 (by decide)]
    have e4 : ∀ v, f_Mo_lowest v y m' = f_Mo_lowest v y m := fun v => rfl
    unfold f_Mo_get8 k_Mo_get8_37
    rw [e3, fr_M h 0 (by decide)]
    rfl
  unfold f_Mo_g
  rw [e1, fr_I h 8 (by decide)]
  cases f_Mo_plus 4 m with
  | none => rfl
  | some e => rw [po_bs2, po_bs2, e2]
theorem r_refuse {β : Type} (w : Int32) (hw : ¬ w = -1) (q : z_Sg) (l : z_Sg → Option (Sum z_Dd β)) : z_eb (e_f_Mo_refuse w q) l = some (.inl (w, z_gL q 5, z_gI q 0)) := by
  unfold e_f_Mo_refuse
  rw [if_neg hw]
  rfl
theorem g_arith {k0 k m : z_Sg} {n : Nat} (hn : n < 64) (h : TQ (nI n) k0 k m) : z_r k0 ((k_De_decode_43 (-1) (nI (foT n)) k).bind S1) (e_f_Mo_arithmetic (nI (n / 8)) (nI (n % 8)) (nI (szO n (z_gI m 10) (z_gI m 16))) m) FQQ := by
  have ho : z_gI k 11 = nI n := TQ_o h
  have hbs : ¬ (z_gI k 11 &&& (-8 : Int32)) = 456 := by rw [ho]; exact o_bs (by omega) (by omega)
  have x6 : z_gI k 6 = z_gI m 10 := h.1.2.2.2.2.1
  have x5 : z_gI k 5 = z_gI m 16 := h.1.2.2.2.2.2.2.1
  have f6 : ∀ k' : z_Sg, z_gI k' 11 = nI n → ¬ z_gI k' 11 = 246 ∧ ¬ z_gI k' 11 = 247 := by
    intro k' e
    rw [e]
    have : ∀ n, n < 64 → ¬ nI n = 246 ∧ ¬ nI n = 247 := by decide +kernel
    exact this n hn
  have lt : ∀ a, a < 8 → (nI a ≤ (5 : Int32) ↔ a ≤ 5) ∧ (nI a ≤ (3 : Int32) ↔ a ≤ 3) ∧ ((2 : Int32) ≤ nI a ↔ 2 ≤ a) := by decide +kernel
  obtain ⟨l5, l3, l2⟩ := lt (n % 8) (by omega)
  have flx : flE n = true ∧ srE n = true := by
    have : ∀ n, n < 64 → flE n = true ∧ srE n = true := by decide +kernel
    exact this n hn
  obtain ⟨s1, s8⟩ := szO_in n (z_gI m 10) (z_gI m 16)
  have hj : n / 8 < 8 := by omega
  have tmx : tmE n = true := by
    have : ∀ n, n < 64 → tmE n = true := by decide +kernel
    exact this n hn
  have nx : ¬ nI n = 141 ∧ ¬ nI n = 143 := by
    have : ∀ n, n < 64 → ¬ nI n = 141 ∧ ¬ nI n = 143 := by decide +kernel
    exact this n hn
  unfold e_f_Mo_arithmetic
  by_cases c5 : n % 8 ≤ 5
  · rw [if_pos (l5.mpr c5)]
    by_cases c3 : n % 8 ≤ 3
    · rw [if_pos (l3.mpr c3)]
      have ht : foT n = 2 := by unfold foT; rw [if_pos hn, if_pos (by omega)]
      rw [ht]
      have hs : f_De_isToldInSize (nI 2) k = some 1 := tis (Or.inr (by decide)) hbs
      by_cases c2 : 2 ≤ n % 8
      · rw [if_pos (l2.mpr c2)]
        refine dec_o h (by decide) hs (by decide) (fun k' e => tm_1 (by omega) tmx e) (fun k1 m1 hp hg e6 e5 => ?_)
        refine dec_90 hp hg (bn_0 (by decide) (f6 k1 (TQ_o hp.1)).1 (f6 k1 (TQ_o hp.1)).2) (fun k2 hq _ g6 g5 _ => ?_)
        obtain ⟨z6, z5⟩ := PO_sz hq
        have hb : f_Op_bytesOfE k2 = some (nI (szO n (z_gI m 10) (z_gI m 16))) := by
          rw [be_1 (by omega) (by omega) hq.1.2.2.2.1, g6, g5, e6, e5, x6, x5]
        have ho2 : z_gI k2 11 = nI n := hq.1.2.2.2.1
        obtain ⟨gv, gv1, gv2, gv3⟩ := g_r hq.1.1.1 hq.2.1 s1 s8
        rw [gv2, po_bs2]
        refine open_e hq (Or.inl rfl) s1 s8 hb nx.1 nx.2 ((wr_ar (k := z_sI k2 15 _) hn ho2).trans (by rw [if_neg (by omega)])) (bd_0 (k := z_sI k2 15 _) (by omega) (by omega) ho2) (fun k3 m3 v q1 q2 q3 q4 q5 q6 => ?_)
        have ho3 : z_gI k3 11 = nI n := q1.2.2.2.1
        refine ex_1 (by omega) flx.1 flx.2 ho3 ?_
        rw [on_ar hn ho3]
        unfold f_On_combine
        have hz3 : f_On_sizeByOpcode k3 = some (nI (szO n (z_gI m 10) (z_gI m 16))) := by
          rw [K_szO (by omega) ho3, fr_I q5 6 (by decide), fr_I q5 5 (by decide), g6, g5, e6, e5, x6, x5]
        have hgk : f_Op_g (nI (szO n (z_gI m 10) (z_gI m 16))) k3 = some gv := by
          obtain ⟨gw, gw1, gw2, _⟩ := g_r q1.1.1 q2.1 s1 s8
          have eg := g_fr (nI (szO n (z_gI m 10) (z_gI m 16))) q6
          rw [eg, gv2] at gw2
          cases gw2
          exact gw1
        rw [hz3, po_bs2]
        have hp1 : nI (n / 2 % 4) = 1 := by rw [show n / 2 % 4 = 1 by omega]; rfl
        rw [hp1, if_pos rfl, hgk, po_bs2]
        unfold k_On_combine_45
        rw [if_neg (by decide), if_pos rfl, q3, po_bs2]
        exact comb_G q1.1 q2.1 hj s1 s8 (em_r _ _) (em_r _ _)
      · rw [if_neg (fun x => c2 (l2.mp x))]
        refine dec_o h (by decide) hs (by decide) (fun k' e => tm_1 (by omega) tmx e) (fun k1 m1 hp hg e6 e5 => ?_)
        refine dec_90 hp hg (bn_0 (by decide) (f6 k1 (TQ_o hp.1)).1 (f6 k1 (TQ_o hp.1)).2) (fun k2 hq _ g6 g5 _ => ?_)
        have hb : f_Op_bytesOfE k2 = some (nI (szO n (z_gI m 10) (z_gI m 16))) := by
          rw [be_1 (by omega) (by omega) hq.1.2.2.2.1, g6, g5, e6, e5, x6, x5]
        have ho2 : z_gI k2 11 = nI n := hq.1.2.2.2.1
        have go : ∀ how : Int32, (how = if n % 8 < 2 ∧ n < 56 then 1 else 0) → z_r k0 ((f_Op_open k2).bind S2) (e_k_Mo_arithmetic_88 (nI (n / 8)) (nI (szO n (z_gI m 10) (z_gI m 16))) (nI (szO n (z_gI m 10) (z_gI m 16))) how m1) FQQ := by
          intro how hhow
          have h01 : how = 0 ∨ how = 1 := by rw [hhow]; split <;> simp
          unfold e_k_Mo_arithmetic_88
          refine open_e hq h01 s1 s8 hb nx.1 nx.2 ((wr_ar (k := z_sI k2 15 _) hn ho2).trans (by rw [hhow])) (bd_0 (k := z_sI k2 15 _) (by omega) (by omega) ho2) (fun k3 m3 v q1 q2 q3 q4 q5 q6 => ?_)
          have ho3 : z_gI k3 11 = nI n := q1.2.2.2.1
          refine ex_1 (by omega) flx.1 flx.2 ho3 ?_
          rw [on_ar hn ho3]
          unfold f_On_combine
          have hz3 : f_On_sizeByOpcode k3 = some (nI (szO n (z_gI m 10) (z_gI m 16))) := by
            rw [K_szO (by omega) ho3, fr_I q5 6 (by decide), fr_I q5 5 (by decide), g6, g5, e6, e5, x6, x5]
          obtain ⟨gv, gv1, gv2, gv3⟩ := g_r q1.1.1 q2.1 s1 s8
          rw [hz3, po_bs2]
          have hp1 : nI (n / 2 % 4) = 0 := by rw [show n / 2 % 4 = 0 by omega]; rfl
          rw [hp1, if_neg (by decide), if_neg (by decide), q3, po_bs2]
          unfold k_On_combine_45
          rw [if_pos rfl, gv1, po_bs2, gv2, po_bs2]
          exact comb_E q1.1 q1.2.1 q2 hj s1 s8 (Or.inl rfl) (em_r _ _) (em_r _ _) (c7 := fun _ => nI (n / 8) = (7 : Int32)) (fun _ _ _ => nI_7 hj)
        by_cases c7 : n / 8 = 7
        · rw [if_pos ((nI_7 hj).mpr c7)]
          exact go 0 (by rw [if_neg (by omega)])
        · rw [if_neg (fun x => c7 ((nI_7 hj).mp x))]
          exact go 1 (by rw [if_pos (by omega)])
    · rw [if_neg (fun x => c3 (l3.mp x)), M_four s8, po_bs2]
      have num : ∀ (t : Nat), foT n = t → (¬ nI t = 0) → ((nI t &&& (2 : Int32)) = 0) → ((nI t &&& (4 : Int32)) = 0) → f_De_bytesOfNumber (nI t) (z_sI k 12 3) = some (nI (min (szO n (z_gI m 10) (z_gI m 16)) 4)) → z_r k0 ((k_De_decode_43 (-1) (nI (foT n)) k).bind S1) (z_eb (e_f_Mo_number (nI (min (szO n (z_gI m 10) (z_gI m 16)) 4)) m) (fun r18 => ((f_Mo_get8 (0 : Int32) (nI (szO n (z_gI m 10) (z_gI m 16))) r18.2).bind (fun r19 => ((f_Mo_lowest r18.1 (nI (szO n (z_gI m 10) (z_gI m 16))) r18.2).bind (fun r20 => ((f_Mo_reckon (nI (n / 8)) r19 r20 (nI (szO n (z_gI m 10) (z_gI m 16))) r18.2).bind (fun r21 => (if nI (n / 8) = (7 : Int32) then ((k_Mo_arithmetic_63 r21.2).bind (fun o => some (.inr o))) else ((f_Mo_put8 (0 : Int32) (nI (szO n (z_gI m 10) (z_gI m 16))) r21.1 r21.2).bind (fun r23 => ((k_Mo_arithmetic_63 r23).bind (fun o => some (.inr o)))))))))))))) FQQ := by
        intro t e1 e2 e3 e4 e5
        rw [e1]
        refine dec_xn h e2 e3 (tis (Or.inr e4) hbs) (by omega) (by omega) e5 (fun k' b hp h3 h9 g6 g5 => ?_)
        have ho3 : z_gI k' 11 = nI n := hp.2.2.2.1
        refine ex_1 (by omega) flx.1 flx.2 ho3 ?_
        rw [on_ar hn ho3]
        unfold f_On_combine
        have hz3 : f_On_sizeByOpcode k' = some (nI (szO n (z_gI m 10) (z_gI m 16))) := by
          rw [K_szO (by omega) ho3, g6, g5, x6, x5]
        obtain ⟨gv, gv1, gv2, gv3⟩ := get_r (j := 0) hp.1.1 (by decide) s1 s8
        rw [show (0 : Int32) = nI 0 from rfl, hz3, po_bs2, gv2, po_bs2, M_lowest _ s8, po_bs2]
        have hp1 : nI (n / 2 % 4) = 2 := by rw [show n / 2 % 4 = 2 by omega]; rfl
        rw [hp1, if_neg (by decide), if_pos rfl, gv1, po_bs2]
        unfold k_On_combine_45
        rw [if_neg (by decide), if_neg (by decide), h9]
        exact comb_A hp.1 hj s1 s8 (em_r _ _) (em_low _ s8)
      by_cases c4 : n % 8 = 4
      · have es : szO n (z_gI m 10) (z_gI m 16) = 1 := by unfold szO; rw [if_pos (by omega)]
        refine num 8 (by unfold foT; rw [if_pos hn, if_neg (by omega), if_pos c4]) (by decide) (by decide) (by decide) ?_
        rw [es]
        exact bn_1 (by decide)
      · have es : szO n (z_gI m 10) (z_gI m 16) = szV (z_gI m 10) (z_gI m 16) := by unfold szO; rw [if_neg (by omega)]
        refine num 128 (by unfold foT; rw [if_pos hn, if_neg (by omega), if_neg c4, if_pos (by omega)]) (by decide) (by decide) (by decide) ?_
        rw [es]
        refine (bn_z (t := nI 128) (k := z_sI k 12 3) (by decide) (f6 (z_sI k 12 3) ho).1 (f6 (z_sI k 12 3) ho).2).trans ?_
        show some (nI (z4 (z_gI k 6) (z_gI k 5))) = _
        rw [x6, x5]
        rfl
  · rw [if_neg (fun x => c5 (l5.mp x))]
    have ht : foT n = 0 := by unfold foT; rw [if_pos hn, if_neg (by omega), if_neg (by omega), if_neg (by omega)]
    rw [ht]
    exact dec_t0 h.2.1 h.1
