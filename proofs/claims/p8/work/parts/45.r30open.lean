def FB (m : z_Sg) : Prop := ∀ j, z_gN m 1 j = 0 ∨ z_gN m 1 j = 1
theorem FB_fr {m m' : z_Sg} (h : FB m) {Lm Im Mm Nm : List Nat} (fm : fr Lm Im Mm Nm m m') (h1 : 1 ∉ Nm) : FB m' := by
  unfold FB
  rw [fr_N fm 1 h1]
  exact h
def TQ (o : Int32) (k0 k m : z_Sg) : Prop := DR k m ∧ (∃ f c, KF k0 k f c) ∧ z_gI k 11 = o ∧ FB m
def PR (o : Int32) (k0 k m : z_Sg) : Prop := EQ k m ∧ z_gI m 5 = 0 ∧ (∃ f c, KF k0 k f c) ∧ z_gI k 11 = o ∧ FB m ∧ z_bo (z_gI k 5)
def P9 (o : Int32) (k0 k m : z_Sg) : Prop := TQ o k0 k m ∧ MR k m ∧ (z_gI k 12 = 3 ∨ PLr k m)
def PO (o : Int32) (k0 k m : z_Sg) : Prop := PR o k0 k m ∧ MR k m ∧ (z_gI k 12 = 3 ∨ PLr k m) ∧ z_gL k 10 = z_gL m 0 + (z_gI m 6).toInt64
theorem TQ_d {o : Int32} {k0 k m : z_Sg} (h : TQ o k0 k m) : DR k m := h.1
theorem TQ_k {o : Int32} {k0 k m : z_Sg} (h : TQ o k0 k m) : ∃ f c, KF k0 k f c := h.2.1
theorem TQ_o {o : Int32} {k0 k m : z_Sg} (h : TQ o k0 k m) : z_gI k 11 = o := h.2.2.1
theorem TQ_f {o : Int32} {k0 k m : z_Sg} (h : TQ o k0 k m) : FB m := h.2.2.2
theorem PR_of {o : Int32} {k0 k m : z_Sg} (h : TQ o k0 k m) (hg : z_gL k 10 = z_gL m 7) : PR o k0 k m := by
  obtain ⟨d, hk, ho, hf⟩ := h
  refine ⟨⟨DR_EQn d, Sim_f d.1, Sim_u d.1, hg⟩, d.2.2.1, hk, ho, hf, d.2.2.2.2.2.2.2⟩
theorem TQ_g {o : Int32} {k0 k m : z_Sg} (h : TQ o k0 k m) (v : Int64) : TQ o k0 k (z_sL m 7 v) := by
  obtain ⟨d, hk, ho, hf⟩ := h
  exact ⟨DR_fr d (Lk := []) (Ik := []) (Mk := []) (Nk := []) (Lm := [7]) (Im := []) (Mm := []) (Nm := []) fr_0 (fr_sL fr_0 (by decide)) (by decide) (by decide) (by decide) (by decide) (by decide) (by decide) (by decide), hk, ho, hf⟩
theorem P9_g {o : Int32} {k0 k m : z_Sg} (h : P9 o k0 k m) (v : Int64) : P9 o k0 k (z_sL m 7 v) := ⟨TQ_g h.1 v, h.2.1, h.2.2⟩
theorem TQ_9 {o : Int32} {k0 k m k' m' : z_Sg} (h : TQ o k0 k m) (hd : D9 k m k' m') : TQ o k0 k' m' := by
  refine ⟨hd.1, D9_k hd h.2.1, ?_, FB_fr h.2.2.2 hd.2.2.2 (by decide)⟩
  rw [fr_I hd.2.2.1 11 (by decide)]; exact h.2.2.1
theorem PLr_fr {k m k' m' : z_Sg} (h : z_gI k 12 = 3 ∨ PLr k m) {Lk Ik Mk Nk Lm Im Mm Nm : List Nat} (fk : fr Lk Ik Mk Nk k k') (fm : fr Lm Im Mm Nm m m') (h1 : 8 ∉ Lk) (h2 : ∀ j ∈ Ik, j ≠ 7 ∧ j ≠ 8 ∧ j ≠ 9 ∧ j ≠ 12) (h3 : 6 ∉ Lm) (h4 : ∀ j ∈ Im, j ≠ 12 ∧ j ≠ 13 ∧ j ≠ 14 ∧ j ≠ 17) : z_gI k' 12 = 3 ∨ PLr k' m' := by
  have ki : ∀ j, (j = 7 ∨ j = 8 ∨ j = 9 ∨ j = 12) → z_gI k' j = z_gI k j := fun j hj => fr_I fk j (fun x => by have := h2 j x; omega)
  have mi : ∀ j, (j = 12 ∨ j = 13 ∨ j = 14 ∨ j = 17) → z_gI m' j = z_gI m j := fun j hj => fr_I fm j (fun x => by have := h4 j x; omega)
  rcases h with h | ⟨h, hd⟩
  · exact Or.inl (by rw [ki 12 (by omega)]; exact h)
  · refine Or.inr ⟨PLb_fr h (ki 7 (by omega)) (ki 8 (by omega)) (ki 9 (by omega)) (mi 12 (by omega)) (mi 13 (by omega)) (mi 14 (by omega)) (mi 17 (by omega)), ?_⟩
    rw [fr_L fk 8 h1, fr_L fm 6 h3]; exact hd
theorem P9_9 {o : Int32} {k0 k m k' m' : z_Sg} (h : P9 o k0 k m) (hd : D9 k m k' m') (hg : z_gL k' 10 = z_gL m' 7) : PO o k0 k' m' := by
  obtain ⟨ht, hM, hp⟩ := h
  exact ⟨PR_of (TQ_9 ht hd) hg, MR_fr hM hd.2.2.1 hd.2.2.2 (by decide) (by decide), PLr_fr hp hd.2.2.1 hd.2.2.2 (by decide) (by decide) (by decide) (by decide), hd.2.1⟩
theorem open_3 {β : Type} {k0 k : z_Sg} (h3 : z_gI k 12 = 3) {y : Option (Sum z_Dd β)} {Q : z_Sg → β → Prop} (ha : ∀ a, f_Op_bytesOfE k = some a → z_r k0 (k_Co_step_21 (-1) (z_sI k 15 a)) y Q) : z_r k0 ((f_Op_open k).bind S2) y Q := by
  unfold f_Op_open
  rw [Option.bind_assoc]
  refine r_pK (R := fun a => f_Op_bytesOfE k = some a) (fun a ha => ha) (fun a h => ?_)
  rw [po_nm2, if_pos (show z_gI (z_sI k 15 a) 12 = 3 from h3)]
  exact ha a h
theorem PR_15 {o : Int32} {k0 k m : z_Sg} (h : PR o k0 k m) (a : Int32) : PR o k0 (z_sI k 15 a) m := by
  obtain ⟨⟨e1, e2, e3, e4⟩, h5, hk, ho, hf, hb⟩ := h
  exact ⟨⟨EQn_k e1 (Lk := []) (Ik := [15]) (Mk := []) (Nk := []) (Lm := []) (Im := []) (Mm := []) (Nm := []) (fr_sI fr_0 (by decide)) fr_0 (by decide) (by decide) (by decide) (by decide) (by decide) (by decide) (by decide), e2, e3, e4⟩, h5, hk, ho, hf, hb⟩
theorem TQ_12 {o : Int32} {k0 k m : z_Sg} (h : TQ o k0 k m) : TQ o k0 (z_sI k 12 3) m := by
  obtain ⟨d, hk, ho, hf⟩ := h
  exact ⟨DR_fr d (Lk := []) (Ik := [12]) (Mk := []) (Nk := []) (Lm := []) (Im := []) (Mm := []) (Nm := []) (fr_sI fr_0 (by decide)) fr_0 (by decide) (by decide) (by decide) (by decide) (by decide) (by decide) (by decide), hk, ho, hf⟩
theorem dec_x {t : Int32} {k : z_Sg} (ht : ¬ t = 0) (h2 : (t &&& (2 : Int32)) = 0) (hs : f_De_isToldInSize t k = some 1) : (k_De_decode_43 (-1) t k).bind S1 = (k_De_decode_93 (-1) t (z_sI k 12 3)).bind S1 := by
  unfold k_De_decode_43
  rw [if_neg ht, hs, po_bs2, if_neg (by decide), po_nm2, if_pos h2]
  unfold k_De_decode_75
  rw [if_pos rfl, if_pos (show z_gI (z_sI k 12 3) 12 = 3 from rfl)]
theorem dec_x0 {β : Type} {o t : Int32} {k0 k m : z_Sg} (h : TQ o k0 k m) (hg : z_gL m 7 = z_gL m 0 + (z_gI m 6).toInt64) (ht : ¬ t = 0) (h2 : (t &&& (2 : Int32)) = 0) (hs : f_De_isToldInSize t k = some 1) (hb : f_De_bytesOfNumber t (z_sI k 12 3) = some 0) {y : Option (Sum z_Dd β)} {Q : z_Sg → β → Prop} (ha : ∀ k', PR o k0 k' m → z_gI k' 12 = 3 → z_gL k' 9 = 0 → z_r k0 (k_Co_step_21 (-1) k') y Q) : z_r k0 ((k_De_decode_43 (-1) t k).bind S1) y Q := by
  rw [dec_x ht h2 hs]
  refine dec9_0 (TQ_k (TQ_12 h)) (TQ_d (TQ_12 h)) hb (fun k' hd h9 hk' => ?_)
  have h3 : z_gI k' 12 = 3 := by rw [fr_I hd.2.2.1 12 (by decide)]; rfl
  refine open_3 h3 (fun a _ => ?_)
  exact ha _ (PR_15 (PR_of (TQ_9 (TQ_12 h) hd) (by rw [hd.2.1, hg])) a) h3 h9
theorem dec_xn {β : Type} {o t : Int32} {k0 k m : z_Sg} (h : TQ o k0 k m) (ht : ¬ t = 0) (h2 : (t &&& (2 : Int32)) = 0) (hs : f_De_isToldInSize t k = some 1) {n : Nat} (h1 : 1 ≤ n) (h8 : n ≤ 8) (hb : f_De_bytesOfNumber t (z_sI k 12 3) = some (nI n)) {l : Int64 × z_Sg → Option (Sum z_Dd β)} {Q : z_Sg → β → Prop} (ha : ∀ k' b, PR o k0 k' b.2 → z_gI k' 12 = 3 → z_gL k' 9 = b.1 → z_gI k' 6 = z_gI k 6 → z_gI k' 5 = z_gI k 5 → z_r k0 (k_Co_step_21 (-1) k') (l b) Q) : z_r k0 ((k_De_decode_43 (-1) t k).bind S1) (z_eb (e_f_Mo_number (nI n) m) l) Q := by
  rw [dec_x ht h2 hs]
  refine dec9_n (TQ_k (TQ_12 h)) (TQ_d (TQ_12 h)) h1 h8 hb (fun k' b hd h9 hg hk' => ?_)
  have h3 : z_gI k' 12 = 3 := by rw [fr_I hd.2.2.1 12 (by decide)]; rfl
  refine open_3 h3 (fun a _ => ?_)
  exact ha _ b (PR_15 (PR_of (TQ_9 (TQ_12 h) hd) hg) a) h3 h9 (fr_I hd.2.2.1 6 (by decide)) (fr_I hd.2.2.1 5 (by decide))
theorem dec_mp {β : Type} {o t : Int32} {k0 k m : z_Sg} (h : TQ o k0 k m) (hM : MR k m) {l : z_Sg → Option (Sum z_Dd β)} {Q : z_Sg → β → Prop} (ha : ∀ k' m', P9 o k0 k' m' → z_gI k' 6 = z_gI k 6 → z_gI k' 5 = z_gI k 5 → z_gI k' 13 = z_gI k 13 → z_gI m' 8 = z_gI m 8 → z_r k0 ((k_De_decode_93 (-1) t k').bind S1) (l m') Q) : z_r k0 ((k_De_decode_75 (-1) t k).bind S1) (z_eb (e_f_Mo_takePlace m) l) Q := by
  refine dec_p h.2.1 h.1 hM (fun k' m' hp hk' => ?_)
  obtain ⟨p1, p2, p3, p4, p5⟩ := hp
  refine ha k' m' ⟨⟨p1, hk', ?_, FB_fr h.2.2.2 p5 (by decide)⟩, p2, p3⟩ (fr_I p4 6 (by decide)) (fr_I p4 5 (by decide)) (fr_I p4 13 (by decide)) (fr_I p5 8 (by decide))
  rw [fr_I p4 11 (by decide)]; exact h.2.2.1
theorem dec_mm {β : Type} {o t : Int32} {k0 k m : z_Sg} (h : TQ o k0 k m) (ht : ¬ t = 0) (hs : f_De_isToldInSize t k = some 1) (h2 : ¬ (t &&& (2 : Int32)) = 0) {l : z_Sg → Option (Sum z_Dd β)} {Q : z_Sg → β → Prop} (ha : ∀ k' m', TQ o k0 k' m' → MR k' m' → z_gI k' 6 = z_gI k 6 → z_gI k' 5 = z_gI k 5 → z_gL m' 7 = z_gL m 7 → z_r k0 ((f_De_isToldWithModrm k').bind (fun u => (k_De_decode_75 (if u = 0 then 6 else -1) t k').bind S1)) (l m') Q) : z_r k0 ((k_De_decode_43 (-1) t k).bind S1) (z_eb (e_f_Mo_takeMod m) l) Q := by
  refine dec_m h.2.1 h.1 ht hs h2 (fun k' m' d hM fk fm hk' => ?_)
  refine ha k' m' ⟨d, hk', ?_, FB_fr h.2.2.2 fm (by decide)⟩ hM (fr_I fk 6 (by decide)) (fr_I fk 5 (by decide)) (fr_L fm 7 (by decide))
  rw [fr_I fk 11 (by decide)]; exact h.2.2.1
theorem dec_o {β : Type} {o t : Int32} {k0 k m : z_Sg} (h : TQ o k0 k m) (ht : ¬ t = 0) (hs : f_De_isToldInSize t k = some 1) (h2 : ¬ (t &&& (2 : Int32)) = 0) (hu : ∀ k', z_gI k' 11 = o → f_De_isToldWithModrm k' = some 1) {l : z_Sg → Option (Sum z_Dd β)} {Q : z_Sg → β → Prop} (ha : ∀ k' m', P9 o k0 k' m' → z_gL m' 7 = z_gL m' 0 + (z_gI m' 6).toInt64 → z_gI k' 6 = z_gI k 6 → z_gI k' 5 = z_gI k 5 → z_r k0 ((k_De_decode_93 (-1) t k').bind S1) (l m') Q) : z_r k0 ((k_De_decode_43 (-1) t k).bind S1) (z_eb (e_f_Mo_takeOperand m) l) Q := by
  unfold e_f_Mo_takeOperand
  rw [eb_eb]
  refine dec_mm h ht hs h2 (fun k1 m1 h1 hM e6 e5 _ => ?_)
  refine told (hu k1 (TQ_o h1)) ?_
  rw [eb_eb]
  refine dec_mp h1 hM (fun k' m' hp g6 g5 _ _ => ?_)
  rw [eb_nm, eb_s]
  exact ha k' _ (P9_g hp _) rfl (g6.trans e6) (g5.trans e5)
theorem dec_90 {β : Type} {o t : Int32} {k0 k m : z_Sg} (h : P9 o k0 k m) (hg : z_gL m 7 = z_gL m 0 + (z_gI m 6).toInt64) (hb : f_De_bytesOfNumber t k = some 0) {y : Option (Sum z_Dd β)} {Q : z_Sg → β → Prop} (ha : ∀ k', PO o k0 k' m → z_gL k' 9 = 0 → z_gI k' 6 = z_gI k 6 → z_gI k' 5 = z_gI k 5 → z_gI k' 13 = z_gI k 13 → z_r k0 ((f_Op_open k').bind S2) y Q) : z_r k0 ((k_De_decode_93 (-1) t k).bind S1) y Q := by
  refine dec9_0 (TQ_k h.1) (TQ_d h.1) hb (fun k' hd h9 hk' => ?_)
  exact ha k' (P9_9 h hd (by rw [hd.2.1, hg])) h9 (fr_I hd.2.2.1 6 (by decide)) (fr_I hd.2.2.1 5 (by decide)) (fr_I hd.2.2.1 13 (by decide))
theorem dec_9n {β : Type} {o t : Int32} {k0 k m : z_Sg} (h : P9 o k0 k m) {n : Nat} (h1 : 1 ≤ n) (h8 : n ≤ 8) (hb : f_De_bytesOfNumber t k = some (nI n)) {l : Int64 × z_Sg → Option (Sum z_Dd β)} {Q : z_Sg → β → Prop} (ha : ∀ k' b, PO o k0 k' b.2 → z_gL k' 9 = b.1 → z_gI k' 6 = z_gI k 6 → z_gI k' 5 = z_gI k 5 → z_gI k' 13 = z_gI k 13 → z_gI b.2 8 = z_gI m 8 → z_r k0 ((f_Op_open k').bind S2) (l b) Q) : z_r k0 ((k_De_decode_93 (-1) t k).bind S1) (z_eb (e_f_Mo_number (nI n) m) l) Q := by
  refine dec9_n (TQ_k h.1) (TQ_d h.1) h1 h8 hb (fun k' b hd h9 hg hk' => ?_)
  exact ha k' b (P9_9 h hd hg) h9 (fr_I hd.2.2.1 6 (by decide)) (fr_I hd.2.2.1 5 (by decide)) (fr_I hd.2.2.1 13 (by decide)) (fr_I hd.2.2.2 8 (by decide))
theorem dec_9f {β : Type} {o t : Int32} {k0 k m : z_Sg} (h : P9 o k0 k m) (hb : f_De_bytesOfNumber t k = some 1) {l : Int32 × z_Sg → Option (Sum z_Dd β)} {Q : z_Sg → β → Prop} (ha : ∀ k' b, PO o k0 k' (z_sL b.2 7 (z_gL b.2 0 + (z_gI b.2 6).toInt64)) → z_gL k' 9 = sx (b.1.toInt64) 1 → y_in b.1 0 255 → z_gI k' 6 = z_gI k 6 → z_gI k' 5 = z_gI k 5 → z_gI k' 13 = z_gI k 13 → z_gI b.2 8 = z_gI m 8 → z_r k0 ((f_Op_open k').bind S2) (l b) Q) : z_r k0 ((k_De_decode_93 (-1) t k).bind S1) (z_eb (e_f_Mo_fetch m) l) Q := by
  refine dec9_f (TQ_k h.1) (TQ_d h.1) hb (fun k' b hd h9 hy _ hk' => ?_)
  have hd2 : D9 k (z_sL m 7 (z_gL b.2 0 + (z_gI b.2 6).toInt64)) k' (z_sL b.2 7 (z_gL b.2 0 + (z_gI b.2 6).toInt64)) := by
    obtain ⟨d1, d2, d3, d4⟩ := hd
    refine ⟨DR_fr d1 (Lk := []) (Ik := []) (Mk := []) (Nk := []) (Lm := [7]) (Im := []) (Mm := []) (Nm := []) fr_0 (fr_sL fr_0 (by decide)) (by decide) (by decide) (by decide) (by decide) (by decide) (by decide) (by decide), d2, d3, ?_⟩
    refine ⟨fun j hj => ?_, d4.2.1, d4.2.2.1, d4.2.2.2⟩
    show (if j = 7 then _ else z_gL b.2 j) = (if j = 7 then _ else z_gL m j)
    by_cases c : j = 7
    · rw [if_pos c, if_pos c]
    · rw [if_neg c, if_neg c]; exact d4.1 j hj
  exact ha k' b (P9_9 (P9_g h _) hd2 hd.2.1) h9 hy (fr_I hd.2.2.1 6 (by decide)) (fr_I hd.2.2.1 5 (by decide)) (fr_I hd.2.2.1 13 (by decide)) (fr_I hd.2.2.2 8 (by decide))
theorem memW_0 {k m : z_Sg} (h : EQn k m) (h5 : z_gI m 5 = 0) : memR (z_gM k 1) (z_gN m 0) := by
  obtain ⟨w, w1, w2, w3, w4⟩ := EQn_w h
  have hw0 : w = 0 := nI_inj0 w1 (by rw [← w2]; exact h5)
  subst hw0
  exact w4
theorem PR_fr {o : Int32} {k0 k m k' m' : z_Sg} (h : PR o k0 k m) {Ik Mk Nk Im Mm Nm : List Nat} (fk : fr [] Ik Mk Nk k k') (fm : fr [] Im Mm Nm m m') (h2 : ∀ j ∈ Ik, 12 ≤ j) (h3 : ∀ j ∈ Mk, 2 ≤ j) (h5 : ∀ j ∈ Im, j = 1) (h6 : ∀ j ∈ Mm, 3 ≤ j) (h7 : Nm = []) : PR o k0 k' m' := by
  obtain ⟨⟨e1, e2, e3, e4⟩, g5, hk, ho, hf, hb⟩ := h
  have ki : ∀ j, j < 12 → z_gI k' j = z_gI k j := fun j hj => fr_I fk j (fun x => by have := h2 j x; omega)
  have mi : ∀ j, j ≠ 1 → z_gI m' j = z_gI m j := fun j hj => fr_I fm j (fun x => by have := h5 j x; omega)
  subst h7
  refine ⟨⟨EQn_k e1 fk fm (by simp) (fun j hj => by have := h2 j hj; omega) h3 (by simp) (fun j hj => by have := h5 j hj; omega) h6 (by simp), ?_, ?_, ?_⟩, ?_, ?_, ?_, FB_fr hf fm (by simp), ?_⟩
  · rw [ki 0 (by omega), fr_N fm 1 (by simp)]; exact e2
  · rw [ki 2 (by omega), mi 2 (by omega)]; exact e3
  · rw [fr_L fk 10 (by simp), fr_L fm 7 (by simp)]; exact e4
  · rw [mi 5 (by omega)]; exact g5
  · exact KF_1 (hk.choose_spec.choose_spec) k' (fK_KF ⟨_, _, _, _, fk, by simp, fun j hj => by have := h2 j hj; omega, h3⟩)
  · rw [ki 11 (by omega)]; exact ho
  · rw [ki 5 (by omega)]; exact hb
theorem PR_S {o : Int32} {k0 k m : z_Sg} (h : PR o k0 k m) : Sim k m := EQ_Sim h.1 h.2.1
theorem open_at {β : Type} {o : Int32} {k0 k m : z_Sg} (h : PR o k0 k m) {p : Int64} {how st' : Int32} (hh : how = 0 ∨ how = 1) {n : Nat} (hn : n ≤ 8) (h15 : z_gI k 15 = nI n) (S : Int32 × z_Sg → Option (Int32 × z_Sg)) (hS : ∀ (o : Int32 × z_Sg) (f : Int64) (c : Int32), ¬ o.1 = -1 → KF k0 o.2 f c → z_po (S o) (fun o' => ¬ o'.1 = -1 ∧ KF k0 o'.2 f c)) {l : z_Sg → Option (Sum z_Dd β)} {Q : z_Sg → β → Prop} (ha : ∀ k' m', PR o k0 k' m' → fr [] [16] [2] [] k k' → fr [] [1] [3] [] m m' → z_gI k' 16 = nI n → (∀ i, i < n → z_gM k' 2 i = z_gM m' 3 i ∧ ¬ z_gM m' 3 i < 0) → z_r k0 (S (-1, k')) (l m') Q) : z_r k0 ((f_Op_openAt p how k).bind S) (z_eb (e_f_Mo_lookUp p (nI n) how st' m) l) Q := by
  have go : ∀ st : Int32, z_r k0 ((k_Op_openAt_40 p (nI n) how st k).bind S) (z_eb (e_f_Mo_lookUp p (nI n) how st' m) l) Q := by
    intro st
    unfold k_Op_openAt_40
    refine r_bb S (find_rel_7 (KF_n h.2.2.1) (PR_S h) hn) (fun o f c g1 g2 => hS _ f c g1 g2) (fun k' m' hq => ?_)
    obtain ⟨q1, q2, q3, q4⟩ := hq
    exact ha k' m' (PR_fr h q1 q2 (by decide) (by decide) (by decide) (by decide) rfl) q1 q2 q3 q4
  have go2 : z_r k0 ((k_Op_openAt_18 p (nI n) how k).bind S) (z_eb (e_f_Mo_lookUp p (nI n) how st' m) l) Q := by
    unfold k_Op_openAt_18
    rw [Option.bind_assoc]
    refine r_pK (R := fun _ => True) (fun _ _ => trivial) (fun a _ => ?_)
    by_cases c : a = 0
    · rw [if_pos c, Option.bind_assoc]
      refine r_pK (R := fun _ => True) (fun _ _ => trivial) (fun b _ => ?_)
      by_cases c2 : b = 0
      · rw [if_pos c2]; exact go 0
      · rw [if_neg c2]; exact go 1
    · rw [if_neg c]; exact go 1
  unfold f_Op_openAt
  rw [h15]
  rcases hh with rfl | rfl
  · rw [if_pos rfl]; exact go2
  · rw [if_neg (by decide)]; exact go2
theorem val_3 {k m : z_Sg} (h : EQn k m) {n : Nat} (hM : MR k m) (h15 : z_gI k 15 = nI n) (h1 : 1 ≤ n) (hn : n ≤ 8) (c3 : z_gI k 12 = 3) : ∃ v e, f_Op_value k = some v ∧ f_Mo_plus 1 m = some e ∧ f_Mo_get8 (z_gI m 9 + e) (nI n) m = some v ∧ v &&& mk n = v := by
  obtain ⟨b, hb, e1, e2, e3, e4, e5, e6⟩ := hM
  obtain ⟨e, j, hj, x1, x2, x3, x4, _⟩ := rno (EQn_x h) 1 (show b % 8 < 8 by omega)
  obtain ⟨v, g1, g2, g3⟩ := get_r h hj h1 hn
  refine ⟨v, e, ?_, x2, ?_, g3⟩
  · unfold f_Op_value f_De_registerE
    rw [if_pos c3, x1, po_bs2, po_bs2, e5, x3, h15, g1, po_bs2]; rfl
  · rw [e6, x4, g2]
theorem val_m {k m : z_Sg} (h : EQn k m) (h5 : z_gI m 5 = 0) {n : Nat} (hn : n ≤ 8) (c3 : ¬ z_gI k 12 = 3) (hl : z_gI k 16 = nI n) (hs : ∀ i, i < n → z_gM k 2 i = z_gM m 3 i ∧ ¬ z_gM m 3 i < 0) : ∃ v, f_Op_value k = some v ∧ f_Mo_held (nI n) m = some v ∧ v &&& mk n = v := by
  refine ⟨_, ?_, M_held hn, asm_mk (fun k b hb => mB_8 _ _ b hb) hn⟩
  unfold f_Op_value
  rw [if_neg c3, K_value_7 hn hl, po_bs2]
  unfold k_Op_value_36
  have hm := memW_0 h h5
  congr 1
  refine asm_congr (fun i hi => ?_)
  rw [hm, (hs i hi).1]
theorem open_e {β : Type} {o : Int32} {k0 k m : z_Sg} (h : PO o k0 k m) {how : Int32} (hh : how = 0 ∨ how = 1) {n : Nat} (h1 : 1 ≤ n) (hn : n ≤ 8) (hb : f_Op_bytesOfE k = some (nI n)) (ho1 : ¬ o = 141) (ho2 : ¬ o = 143) (hw : f_Op_isWritten (z_sI k 15 (nI n)) = some how) (hd : f_Op_bitDistance (z_sI k 15 (nI n)) = some 0) {l : Int64 × z_Sg → Option (Sum z_Dd β)} {Q : z_Sg → β → Prop} (ha : ∀ k' m' v, PR o k0 k' m' → ME n k' m' → f_Op_value k' = some v → v &&& mk n = v → fr [] [15, 16] [2] [] k k' → fr [] [1] [3] [] m m' → z_r k0 (k_Co_step_21 (-1) k') (l (v, m')) Q) : z_r k0 ((f_Op_open k).bind S2) (z_eb (e_f_Mo_e (nI n) how m) l) Q := by
  obtain ⟨hp, hM, hP, hon⟩ := h
  have fk0 : fr [] [15] [] [] k (z_sI k 15 (nI n)) := fr_sI fr_0 (by decide)
  have hp' : PR o k0 (z_sI k 15 (nI n)) m := PR_15 hp (nI n)
  have hM' : MR (z_sI k 15 (nI n)) m := hM
  unfold e_f_Mo_e
  by_cases c3 : z_gI k 12 = 3
  · rw [if_pos ((MR_3 hM).mp c3)]
    obtain ⟨v, e, v1, v2, v3, v4⟩ := val_3 hp'.1.1 hM' rfl h1 hn c3
    rw [v2, po_bs2, v3, po_bs2, eb_s]
    refine open_3 c3 (fun a hba => ?_)
    rw [hb] at hba
    cases hba
    exact ha _ m v hp' ⟨hM', rfl, Or.inl c3⟩ v1 v4 (fr_w fk0 (by decide) (by decide) (by decide) (by decide)) fr_0
  · rw [if_neg (fun x => c3 ((MR_3 hM).mpr x))]
    have hP' : PLr (z_sI k 15 (nI n)) m := by
      rcases PLr_fr hP fk0 (fr_0 (Ls := []) (Is := []) (Ms := []) (Ns := [])) (by decide) (by decide) (by decide) (by decide) with x | x
      · exact absurd x c3
      · exact x
    obtain ⟨p, p1, p2⟩ := place_0 hP' (fun i hi => EQn_r hp'.1.1 hi) hon
    rw [p2, po_bs2, eb_bind]
    refine r_pM (R := fun _ => True) (fun _ _ => trivial) (fun st _ => ?_)
    rw [eb_eb]
    unfold f_Op_open
    rw [hb, po_bs2, po_nm2, if_neg (show ¬ z_gI (z_sI k 15 (nI n)) 12 = 3 from c3), if_neg (show ¬ z_gI (z_sI k 15 (nI n)) 11 = 141 from fun x => ho1 (hp.2.2.2.1.symm.trans x)), if_neg (show ¬ z_gI (z_sI k 15 (nI n)) 11 = 143 from fun x => ho2 (hp.2.2.2.1.symm.trans x)), p1, po_bs2, hd, po_bs2, hw, po_bs2, Int64.add_zero, Option.bind_assoc]
    refine open_at hp' hh hn rfl _ (fun o f c g1 g2 => S2_no _ f c g1 g2) (fun k' m' q1 q2 q3 q4 q5 => ?_)
    have hM2 : MR k' m' := MR_fr hM' q2 q3 (by decide) (by decide)
    have c3' : ¬ z_gI k' 12 = 3 := by rw [fr_I q2 12 (by decide)]; exact c3
    obtain ⟨v, v1, v2, v3⟩ := val_m q1.1.1 q1.2.1 hn c3' q4 q5
    rw [v2, po_bs2, eb_bind]
    show z_r k0 (k_Co_step_21 (-1) k') (l (v, m')) Q
    refine ha k' m' v q1 ⟨hM2, ?_, Or.inr ⟨q4, q5⟩⟩ v1 v3 (fr_t (fr_w fk0 (by decide) (by decide) (by decide) (by decide)) (fr_w q2 (by decide) (by decide) (by decide) (by decide))) q3
    rw [fr_I q2 15 (by decide)]; rfl
