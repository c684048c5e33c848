theorem shl_1 (x : Int64) : z_lshl x 1 = x + x := by
  refine wb_inj ?_
  rw [Int64.toBitVec_add]
  have e : (z_lshl x 1).toBitVec = x.toBitVec <<< 1 := by
    refine BitVec.eq_of_getLsbD_eq (fun i hi => ?_)
    have := tb_shl x (k := 1) i (by decide)
    unfold tb at this
    rw [show (1 : Int32) = nI 1 from rfl, this, BitVec.getLsbD_shiftLeft]
  rw [e]
  refine BitVec.eq_of_toNat_eq ?_
  rw [BitVec.toNat_shiftLeft, BitVec.toNat_add, Nat.shiftLeft_eq]
  congr 1
  omega
theorem shl_S (x : Int64) {s : Nat} (hs : s < 63) : z_lshl x (nI (s + 1)) = z_lshl (x + x) (nI s) := by
  rw [← shl_1]
  refine tb_ext (fun i hi => ?_)
  rw [tb_shl _ _ (by omega), tb_shl _ _ (by omega), show (1 : Int32) = nI 1 from rfl, tb_shl _ _ (by omega), decide_eq_true hi]
  by_cases c1 : i < s
  · rw [decide_eq_true c1, decide_eq_true (show i < s + 1 by omega)]; simp
  · by_cases c2 : i < s + 1
    · rw [decide_eq_true c2, decide_eq_true (show i - s < 1 by omega)]; simp
    · rw [decide_eq_false c1, decide_eq_false c2, decide_eq_false (show ¬ i - s < 1 by omega), decide_eq_true (show i - s < 64 by omega), show i - s - 1 = i - (s + 1) by omega]; simp
theorem shl_0' (x : Int64) : z_lshl x (nI 0) = x := tb_ext (fun i hi => by
  rw [tb_shl _ _ (by omega), decide_eq_true hi, decide_eq_false (show ¬ i < 0 by omega), Nat.sub_zero]; rfl)
theorem times_ok {m : z_Sg} {s j : Nat} (hs : s < 4) (hj : j < 16) (e12 : z_gI m 12 = nI s) (e14 : z_gI m 14 = nI j) (x1 : Int64) : ∀ (f i : Nat) (t : Int64), i ≤ s → s - i < f → z_lo (fun ih74 (a : Int64 × Int64 × Int32) => kb_Mo_place_74 ih74 a.1 a.2.1 a.2.2 m) f (x1, t, nI i) = some (x1 + z_lshl t (nI (s - i))) := by
  intro f
  induction f with
  | zero => intro i t _ h; omega
  | succ f ih =>
    intro i t hi hf
    have hle : nI s ≤ nI i ↔ s ≤ i := nI_leI (by omega) (by omega)
    have hm1 : ¬ nI j = -1 := by
      have : ∀ j, j < 16 → ¬ nI j = -1 := by decide +kernel
      exact this j hj
    have st : ∀ J, kb_Mo_place_74 J x1 t (nI i) m = if s ≤ i then some (x1 + t) else J (x1, t + t, nI (i + 1)) := by
      intro J
      unfold kb_Mo_place_74 k_Mo_place_101
      rw [e12, e14]
      by_cases c : s ≤ i
      · rw [if_pos (hle.mpr c), if_pos c]
      · rw [if_neg (fun x => c (hle.mp x)), if_neg hm1, po_nm2, po_nm2, nI_S, if_neg c]
    show kb_Mo_place_74 _ x1 t (nI i) m = _
    rw [st]
    by_cases c : s ≤ i
    · have : i = s := by omega
      subst this
      rw [if_pos c, Nat.sub_self, shl_0']
    · rw [if_neg c, ih (i + 1) (t + t) (by omega) (by omega)]
      rw [show s - i = (s - (i + 1)) + 1 by omega, shl_S t (by omega)]
theorem place_eq {k m : z_Sg} (hp : PLr k m) {d : Int64} (hr : ∀ i, i < 16 → z_gM m 0 i = if i = 4 then z_gM k 0 4 + d else z_gM k 0 i) (hn : z_gL k 10 = z_gL m 0 + (z_gI m 6).toInt64) : ∃ p, f_De_placeOfE d k = some p ∧ f_Mo_place m = some p := by
  obtain ⟨⟨hb, hi⟩, hd⟩ := hp
  have jj : ∀ j, j < 16 → ((nI j &&& (15 : Int32)) = nI j ∧ ¬ nI j = -1 ∧ ¬ nI j < 0 ∧ ¬ nI j = -2 ∧ (nI j = 4 ↔ j = 4)) := by decide +kernel
  have ix : ∃ t, (∀ x, k_De_placeOfE_63 x k = some (x + t)) ∧ (∀ a b, k_Mo_place_47 a b m = some ((a + b) + t)) := by
    rcases hi with ⟨i1, i2⟩ | ⟨j, s, hj, h4, hs, i1, i2, i3, i4⟩
    · refine ⟨0, fun x => ?_, fun a b => ?_⟩
      · unfold k_De_placeOfE_63 k_De_placeOfE_93
        rw [i1, if_pos (by decide), Int64.add_zero]
      · unfold k_Mo_place_47 k_Mo_place_70 k_Mo_place_74
        rw [po_nm2, i2, if_pos rfl]
        show kb_Mo_place_74 _ (a + b) 0 0 m = _
        unfold kb_Mo_place_74 k_Mo_place_101
        by_cases c : z_gI m 12 ≤ 0
        · rw [if_pos c]
        · rw [if_neg c, i2, if_pos rfl]
    · obtain ⟨j1, j2, j3, j4, j5⟩ := jj j hj
      refine ⟨z_lshl (z_gM k 0 j) (nI s), fun x => ?_, fun a b => ?_⟩
      · unfold k_De_placeOfE_63 k_De_placeOfE_93
        rw [i1, if_neg j3, j1, if_neg (in16 hj), po_nm2, z_clp (by omega), i3]
      · unfold k_Mo_place_47 k_Mo_place_70 k_Mo_place_74
        rw [po_nm2, i2, if_neg j2, if_neg (in16 hj), z_clp (by omega), show (0 : Int32) = nI 0 from rfl, times_ok hs hj i4 i2 _ 2000 0 _ (by omega) (by omega), hr j hj, if_neg h4, Nat.sub_zero]
  obtain ⟨t, t1, t2⟩ := ix
  unfold f_De_placeOfE f_Mo_place k_De_placeOfE_60 k_Mo_place_25
  rw [po_nm2, hd]
  rcases hb with ⟨b1, b2, b3⟩ | ⟨b1, b2, b3⟩ | ⟨j, hj, b1, b2, b3⟩
  · rw [b1, if_pos rfl, po_nm2, t1, b2, if_neg (by decide), b3, if_pos rfl, t2, hn]
    refine ⟨_, rfl, ?_⟩
    rw [Int64.add_zero]
  · rw [b1, if_neg (by decide), if_pos (by decide), t1, b2, if_pos rfl, b3, if_pos rfl, t2]
    refine ⟨_, rfl, ?_⟩
    rw [Int64.add_zero, Int64.add_zero]
  · obtain ⟨j1, j2, j3, j4, j5⟩ := jj j hj
    rw [b1, if_neg j4, if_neg j3, j1, if_neg (in16 hj), b3, if_pos rfl, b2, if_neg j2, if_neg (in16 hj), t2, z_clp (by omega), hr j hj]
    by_cases c : j = 4
    · rw [if_pos (j5.mpr c), po_nm2, t1, if_pos c, c]
      refine ⟨_, rfl, ?_⟩
      rw [Int64.add_zero]
    · rw [if_neg (fun x => c (j5.mp x)), po_nm2, t1, if_neg c]
      refine ⟨_, rfl, ?_⟩
      rw [Int64.add_zero, Int64.add_zero]
theorem place_0 {k m : z_Sg} (hp : PLr k m) (hr : ∀ i, i < 16 → z_gM k 0 i = z_gM m 0 i) (hn : z_gL k 10 = z_gL m 0 + (z_gI m 6).toInt64) : ∃ p, f_De_placeOfE 0 k = some p ∧ f_Mo_place m = some p := by
  refine place_eq hp (d := 0) (fun i hi => ?_) hn
  rw [← hr i hi]
  by_cases c : i = 4
  · subst c; rw [if_pos rfl, Int64.add_zero]
  · rw [if_neg c]
abbrev S2 : Int32 × z_Sg → Option (Int32 × z_Sg) := fun r13 => k_Co_step_21 r13.1 r13.2
abbrev S1 : Int32 × z_Sg → Option (Int32 × z_Sg) := fun r1 => if r1.1 = (-1 : Int32) then ((f_Op_open r1.2).bind S2) else (k_Co_step_21 r1.1 r1.2)
abbrev S3 : Int32 × z_Sg → Option (Int32 × z_Sg) := fun r => k_Co_step_86 r.1 r.2
theorem S1_no {k0 : z_Sg} (o : Int32 × z_Sg) (f : Int64) (c : Int32) (h1 : ¬ o.1 = -1) (h2 : KF k0 o.2 f c) : z_po (S1 o) (fun o' => ¬ o'.1 = -1 ∧ KF k0 o'.2 f c) := by
  show z_po (if o.1 = (-1 : Int32) then _ else k_Co_step_21 o.1 o.2) _
  refine po_f h1 ?_
  unfold k_Co_step_21
  exact po_f h1 (po_s ⟨h1, h2⟩)
theorem S2_no {k0 : z_Sg} (o : Int32 × z_Sg) (f : Int64) (c : Int32) (h1 : ¬ o.1 = -1) (h2 : KF k0 o.2 f c) : z_po (S2 o) (fun o' => ¬ o'.1 = -1 ∧ KF k0 o'.2 f c) := by
  show z_po (k_Co_step_21 o.1 o.2) _
  unfold k_Co_step_21
  exact po_f h1 (po_s ⟨h1, h2⟩)
theorem S3_no {k0 : z_Sg} (o : Int32 × z_Sg) (f : Int64) (c : Int32) (h1 : ¬ o.1 = -1) (h2 : KF k0 o.2 f c) : z_po (S3 o) (fun o' => ¬ o'.1 = -1 ∧ KF k0 o'.2 f c) := by
  show z_po (k_Co_step_86 o.1 o.2) _
  unfold k_Co_step_86 k_Co_step_87 k_Co_step_106
  exact po_f h1 (po_s ⟨h1, h2⟩)
def FQQ (o m : z_Sg) : Prop := ∃ k, o = z_sL k 0 (z_gL k 10) ∧ EQ k m
theorem fin {k0 k m : z_Sg} (h : EQ k m) : z_r k0 (S3 (-1, k)) (some (.inr m)) FQQ := by
  show z_r k0 (k_Co_step_86 (-1) k) _ _
  unfold k_Co_step_86 k_Co_step_87 k_Co_step_106
  refine r_tK rfl (r_nK (fun n hn => ?_))
  subst hn
  exact r_s ⟨k, rfl, h⟩
theorem eb_eb {α β γ : Type} (x : Option (Sum z_Dd α)) (g : α → Option (Sum z_Dd β)) (l : β → Option (Sum z_Dd γ)) : z_eb (z_eb x g) l = z_eb x (fun a => z_eb (g a) l) := by
  cases x with
  | none => rfl
  | some r => cases r <;> rfl
theorem eb_bind {α β γ : Type} (x : Option α) (g : α → Option (Sum z_Dd β)) (l : β → Option (Sum z_Dd γ)) : z_eb (x.bind g) l = x.bind (fun a => z_eb (g a) l) := by cases x <;> rfl
theorem eb_ite {α β : Type} {c : Prop} {d : Decidable c} (x y : Option (Sum z_Dd α)) (l : α → Option (Sum z_Dd β)) : z_eb (@ite _ c d x y) l = @ite _ c d (z_eb x l) (z_eb y l) := by
  by_cases h : c
  · rw [if_pos h, if_pos h]
  · rw [if_neg h, if_neg h]
theorem eb_s {α β : Type} (a : α) (l : α → Option (Sum z_Dd β)) : z_eb (some (.inr a)) l = l a := rfl
theorem eb_nm {α β γ : Type} (a : α) (g : α → Option (Sum z_Dd β)) (l : β → Option (Sum z_Dd γ)) : z_eb (z_nm a g) l = z_eb (g a) l := rfl
theorem KF_n {k0 k : z_Sg} (h : ∃ f c, KF k0 k f c) : KF k0 k (z_gL k 5) (z_gI k 1) := by
  obtain ⟨f, c, a1, a2, a3, a4, a5, a6, a7, a8, a9, a10, a11⟩ := h
  exact ⟨a1, a2, a3, a4, a5, a6, a7, rfl, rfl, a10, a11⟩
theorem r_ref {β : Type} {k0 k m : z_Sg} {w w' : Int32} (hw : ¬ w = -1) (hw' : ¬ w' = -1) (hk : ∃ f c, KF k0 k f c) (h5 : z_gL k 5 = z_gL m 5) (h0 : z_gI k 1 = z_gI m 0) {l : z_Sg → Option (Sum z_Dd β)} {Q : z_Sg → β → Prop} : z_r k0 (some (w, k)) (z_eb (e_f_Mo_refuse w' m) l) Q := by
  unfold e_f_Mo_refuse
  rw [if_neg hw']
  show z_r k0 (some (w, k)) (some (.inl (w', z_gL m 5, z_gI m 0))) Q
  refine r_no hw ?_
  have := KF_n hk
  rw [h5, h0] at this
  exact this
theorem DR_5 {k m : z_Sg} (h : DR k m) : z_gL k 5 = z_gL m 5 := Sim_5 h.1
theorem DR_c {k m : z_Sg} (h : DR k m) : z_gI k 1 = z_gI m 0 := Sim_c h.1
theorem DR_n {k m : z_Sg} (h : DR k m) : z_gL k 0 + (z_gI k 3).toInt64 = z_gL m 0 + (z_gI m 6).toInt64 := by
  obtain ⟨hS, _, _, ⟨c, _, e1, e2, _⟩, _⟩ := h
  rw [Sim_0 hS, e1, e2]
theorem dec_unk {β : Type} {k0 k m : z_Sg} (hk : ∃ f c, KF k0 k f c) (h : DR k m) {l : z_Sg → Option (Sum z_Dd β)} {Q : z_Sg → β → Prop} : z_r k0 ((k_De_decode_56 k).bind S1) (z_eb (e_f_Mo_refuse 6 m) l) Q := by
  have : (k_De_decode_56 k).bind S1 = some (6, k) := rfl
  rw [this]
  exact r_ref (by decide) (by decide) hk (DR_5 h) (DR_c h)
theorem dec_t0 {β : Type} {k0 k m : z_Sg} (hk : ∃ f c, KF k0 k f c) (h : DR k m) {l : z_Sg → Option (Sum z_Dd β)} {Q : z_Sg → β → Prop} : z_r k0 ((k_De_decode_43 (-1) 0 k).bind S1) (z_eb (e_f_Mo_refuse 6 m) l) Q := dec_unk hk h
theorem dec_sz {β : Type} {k0 k m : z_Sg} (hk : ∃ f c, KF k0 k f c) (h : DR k m) {t : Int32} (ht : ¬ t = 0) (hs : f_De_isToldInSize t k = some 0) {l : z_Sg → Option (Sum z_Dd β)} {Q : z_Sg → β → Prop} : z_r k0 ((k_De_decode_43 (-1) t k).bind S1) (z_eb (e_f_Mo_refuse 6 m) l) Q := by
  unfold k_De_decode_43
  rw [if_neg ht, hs, po_bs2, if_pos rfl]
  exact dec_unk hk h
def D9 (k m k' m' : z_Sg) : Prop := DR k' m' ∧ z_gL k' 10 = z_gL m' 0 + (z_gI m' 6).toInt64 ∧ fr [6, 7, 9, 10] [3, 4] [] [] k k' ∧ fr [7] [1, 6] [3] [] m m'
theorem D9_k {k m k' m' k0 : z_Sg} (h : D9 k m k' m') (hk : ∃ f c, KF k0 k f c) : ∃ f c, KF k0 k' f c := KF_1 (hk.choose_spec.choose_spec) k' (fK_KF ⟨_, _, _, _, h.2.2.1, by decide, by decide, by decide⟩)
theorem dec9_0 {β : Type} {k0 k m : z_Sg} (hk : ∃ f c, KF k0 k f c) (h : DR k m) {t : Int32} (hb : f_De_bytesOfNumber t k = some 0) {y : Option (Sum z_Dd β)} {Q : z_Sg → β → Prop} (ha : ∀ k', D9 k m k' m → z_gL k' 9 = 0 → (∃ f c, KF k0 k' f c) → z_r k0 ((f_Op_open k').bind S2) y Q) : z_r k0 ((k_De_decode_93 (-1) t k).bind S1) y Q := by
  have e : (k_De_decode_93 (-1) t k).bind S1 = (f_Op_open (z_sL (z_sL (z_sL k 7 0) 9 0) 10 (z_gL k 0 + (z_gI k 3).toInt64))).bind S2 := by
    unfold k_De_decode_93
    rw [if_pos rfl, hb, po_bs2, num_0]
    rfl
  rw [e]
  have hd : D9 k m (z_sL (z_sL (z_sL k 7 0) 9 0) 10 (z_gL k 0 + (z_gI k 3).toInt64)) m := by
    refine ⟨DR_sL (DR_sL (DR_sL h 7 _ (by decide)) 9 _ (by decide)) 10 _ (by decide), DR_n h, ?_, fr_0⟩
    exact fr_sL (fr_sL (fr_sL fr_0 (by decide)) (by decide)) (by decide)
  exact ha _ hd rfl (D9_k hd hk)
theorem r_bb {β γ : Type} {k0 : z_Sg} {x : Option (Int32 × z_Sg)} {y' : Option (Sum z_Dd γ)} {Q' : z_Sg → γ → Prop} {Q : z_Sg → β → Prop} {f : Int32 × z_Sg → Option (Int32 × z_Sg)} {l : γ → Option (Sum z_Dd β)} (S : Int32 × z_Sg → Option (Int32 × z_Sg)) (h : z_r k0 x y' Q') (hd : ∀ o ff c, ¬ o.1 = -1 → KF k0 o.2 ff c → z_po ((f o).bind S) (fun o' => ¬ o'.1 = -1 ∧ KF k0 o'.2 ff c)) (ha : ∀ o b, Q' o b → z_r k0 ((f (-1, o)).bind S) (l b) Q) : z_r k0 ((x.bind f).bind S) (z_eb y' l) Q := by
  rw [Option.bind_assoc]
  exact r_b h hd ha
theorem KF_s {k0 k : z_Sg} {f : Int64} {c : Int32} (h : KF k0 k f c) {j : Nat} {v : Int64} (hj : 6 ≤ j) : KF k0 (z_sL k j v) f c := by
  obtain ⟨a1, a2, a3, a4, a5, a6, a7, a8, a9, a10, a11⟩ := h
  have e : ∀ i, i < 6 → z_gL (z_sL k j v) i = z_gL k i := fun i hi => by
    show (if i = j then v else z_gL k i) = _
    rw [if_neg (by omega)]
  exact ⟨a1, a2, (e 0 (by omega)).trans a3, (e 1 (by omega)).trans a4, (e 2 (by omega)).trans a5, (e 3 (by omega)).trans a6, (e 4 (by omega)).trans a7, (e 5 (by omega)).trans a8, a9, a10, a11⟩
theorem dec9_n {β : Type} {k0 k m : z_Sg} (hk : ∃ f c, KF k0 k f c) (h : DR k m) {t : Int32} {n : Nat} (h1 : 1 ≤ n) (h8 : n ≤ 8) (hb : f_De_bytesOfNumber t k = some (nI n)) {l : Int64 × z_Sg → Option (Sum z_Dd β)} {Q : z_Sg → β → Prop} (ha : ∀ k' b, D9 k m k' b.2 → z_gL k' 9 = b.1 → z_gL k' 10 = z_gL b.2 7 → (∃ f c, KF k0 k' f c) → z_r k0 ((f_Op_open k').bind S2) (l b) Q) : z_r k0 ((k_De_decode_93 (-1) t k).bind S1) (z_eb (e_f_Mo_number (nI n) m) l) Q := by
  have e : (k_De_decode_93 (-1) t k).bind S1 = (f_De_fetchNumber (nI n) k).bind (fun r13 => S1 (r13.1, z_sL (z_sL r13.2 9 (z_gL r13.2 7)) 10 ((z_gL (z_sL r13.2 9 (z_gL r13.2 7)) 0) + ((z_gI (z_sL r13.2 9 (z_gL r13.2 7)) 3).toInt64)))) := by
    unfold k_De_decode_93
    rw [if_pos rfl, hb, po_bs2, Option.bind_assoc]
    rfl
  rw [e]
  unfold e_f_Mo_number
  rw [eb_eb]
  refine r_b (num_rel h1 h8 hk h) (fun o f c g1 g2 => S1_no _ f c g1 (KF_s (KF_s g2 (by decide)) (by decide))) (fun o b hb => ?_)
  obtain ⟨q1, q2, q3, q4⟩ := hb
  show z_r k0 ((f_Op_open (z_sL (z_sL o 9 (z_gL o 7)) 10 (z_gL o 0 + (z_gI o 3).toInt64))).bind S2) (l (b.1, z_sL b.2 7 ((z_gL b.2 0) + (z_gI b.2 6).toInt64))) Q
  have hd : D9 k m (z_sL (z_sL o 9 (z_gL o 7)) 10 (z_gL o 0 + (z_gI o 3).toInt64)) (z_sL b.2 7 ((z_gL b.2 0) + (z_gI b.2 6).toInt64)) := by
    refine ⟨DR_fr (DR_sL (DR_sL q1 9 _ (by decide)) 10 _ (by decide)) (Lk := []) (Ik := []) (Mk := []) (Nk := []) (Lm := [7]) (Im := []) (Mm := []) (Nm := []) fr_0 (fr_sL fr_0 (by decide)) (by decide) (by decide) (by decide) (by decide) (by decide) (by decide) (by decide), DR_n q1, ?_, ?_⟩
    · exact fr_sL (fr_sL (fr_w q2 (by decide) (by decide) (by decide) (by decide)) (by decide)) (by decide)
    · exact fr_sL (fr_w q3 (by decide) (by decide) (by decide) (by decide)) (by decide)
  exact ha _ _ hd q4 (DR_n q1) (D9_k hd hk)
theorem dec9_f {β : Type} {k0 k m : z_Sg} (hk : ∃ f c, KF k0 k f c) (h : DR k m) {t : Int32} (hb : f_De_bytesOfNumber t k = some 1) {l : Int32 × z_Sg → Option (Sum z_Dd β)} {Q : z_Sg → β → Prop} (ha : ∀ k' b, D9 k m k' b.2 → z_gL k' 9 = sx (b.1.toInt64) 1 → y_in b.1 0 255 → z_gL b.2 7 = z_gL m 7 → (∃ f c, KF k0 k' f c) → z_r k0 ((f_Op_open k').bind S2) (l b) Q) : z_r k0 ((k_De_decode_93 (-1) t k).bind S1) (z_eb (e_f_Mo_fetch m) l) Q := by
  have e : (k_De_decode_93 (-1) t k).bind S1 = (f_De_fetchNumber 1 k).bind (fun r13 => S1 (r13.1, z_sL (z_sL r13.2 9 (z_gL r13.2 7)) 10 ((z_gL (z_sL r13.2 9 (z_gL r13.2 7)) 0) + ((z_gI (z_sL r13.2 9 (z_gL r13.2 7)) 3).toInt64)))) := by
    unfold k_De_decode_93
    rw [if_pos rfl, hb, po_bs2, Option.bind_assoc]
    rfl
  have e3 : ∀ (f : Nat) (q : z_Sg), z_lo z_NKf (f + 2) (1, 0, q) = (f_De_fetch q).bind (fun r5 => if r5.1 = (-1 : Int32) then some (-1, z_sL (z_sL r5.2 7 ((z_gL r5.2 7) ||| (z_lshl (z_gI r5.2 4).toInt64 0))) 7 (sx ((z_gL r5.2 7) ||| (z_lshl (z_gI r5.2 4).toInt64 0)) 1)) else some (r5.1, r5.2)) := by
    intro f q
    show kb_De_fetchNumber_7 (z_lo z_NKf (f + 1)) 1 0 q = _
    unfold kb_De_fetchNumber_7
    rw [if_neg (by decide)]
    refine congrArg (Option.bind (f_De_fetch q)) (funext (fun r5 => ?_))
    by_cases h1 : r5.1 = -1
    · rw [if_pos h1, if_pos h1, po_nm2, po_nm2]
      show kb_De_fetchNumber_7 (z_lo z_NKf f) 1 1 _ = _
      unfold kb_De_fetchNumber_7
      rw [if_pos (by decide), if_neg (by decide)]
      rw [show (1 : Int32) = nI 1 from rfl, K_signed _ (by decide) (by decide), po_bs2]
      rfl
    · rw [if_neg h1, if_neg h1]
  have e2 : f_De_fetchNumber 1 k = (f_De_fetch (z_sL k 7 0)).bind (fun r5 => if r5.1 = (-1 : Int32) then some (-1, z_sL (z_sL r5.2 7 ((z_gL r5.2 7) ||| (z_lshl (z_gI r5.2 4).toInt64 0))) 7 (sx ((z_gL r5.2 7) ||| (z_lshl (z_gI r5.2 4).toInt64 0)) 1)) else some (r5.1, r5.2)) := e3 1998 (z_sL k 7 0)
  rw [e, e2, Option.bind_assoc]
  refine fetch_b (k := z_sL k 7 0) (by obtain ⟨f, c, hk⟩ := hk; exact ⟨f, c, KF_s hk (by decide)⟩) (DR_sL h 7 0 (by decide)) (fun o f c g1 g2 => ?_) (fun k' b hb hk' => ?_)
  · rw [if_neg g1, po_bs2]
    exact S1_no _ f c g1 (KF_s (KF_s g2 (by decide)) (by decide))
  · show z_r k0 ((f_Op_open _).bind S2) (l b) Q
    obtain ⟨fk', fm'⟩ := FQ_fr hb
    obtain ⟨f, x, c, g1, g2, g3, g4, g5, g6⟩ := hb
    have e7 : z_gL k' 7 = 0 := by rw [g3]; rfl
    have e4 : z_gI k' 4 = b.1 := by rw [g3]; rfl
    have ev : (z_gL k' 7) ||| (z_lshl (z_gI k' 4).toInt64 0) = b.1.toInt64 := by
      rw [e7, e4, show (0 : Int32) = nI 0 from rfl, shl_0']
      exact tb_ext (fun i _ => by rw [tb_or, tb_0]; rfl)
    rw [ev]
    have hd : D9 k m (z_sL (z_sL (z_sL (z_sL k' 7 (b.1.toInt64)) 7 (sx b.1.toInt64 1)) 9 (sx b.1.toInt64 1)) 10 (z_gL k' 0 + (z_gI k' 3).toInt64)) b.2 := by
      refine ⟨DR_sL (DR_sL (DR_sL (DR_sL g5 7 _ (by decide)) 7 _ (by decide)) 9 _ (by decide)) 10 _ (by decide), DR_n g5, ?_, ?_⟩
      · refine fr_sL (fr_sL (fr_sL (fr_sL (fr_t (fr_sL fr_0 (k := 7) (v := 0) (by decide)) (fr_w fk' (by decide) (by decide) (by decide) (by decide))) (by decide)) (by decide)) (by decide)) (by decide)
      · exact fr_w fm' (by decide) (by decide) (by decide) (by decide)
    exact ha _ b hd rfl g6 (fr_L fm' 7 (by decide)) (D9_k hd hk)
theorem dec_m {β : Type} {k0 k m : z_Sg} (hk : ∃ f c, KF k0 k f c) (h : DR k m) {t : Int32} (ht : ¬ t = 0) (hs : f_De_isToldInSize t k = some 1) (h2 : ¬ (t &&& (2 : Int32)) = 0) {l : z_Sg → Option (Sum z_Dd β)} {Q : z_Sg → β → Prop} (ha : ∀ k' m', DR k' m' → MR k' m' → fr [6, 7] [3, 4, 12, 13, 14] [] [] k k' → fr [] [1, 6, 7, 8, 9] [3] [] m m' → (∃ f c, KF k0 k' f c) → z_r k0 ((f_De_isToldWithModrm k').bind (fun u => (k_De_decode_75 (if u = 0 then 6 else -1) t k').bind S1)) (l m') Q) : z_r k0 ((k_De_decode_43 (-1) t k).bind S1) (z_eb (e_f_Mo_takeMod m) l) Q := by
  have e : (k_De_decode_43 (-1) t k).bind S1 = (f_De_fetchModrm (z_sI k 12 3)).bind (fun r18 => (k_De_decode_75 r18.1 t r18.2).bind S1) := by
    unfold k_De_decode_43
    rw [if_neg ht, hs, po_bs2, if_neg (by decide), po_nm2, if_neg h2, Option.bind_assoc]
  rw [e]
  have hk1 : ∃ f c, KF k0 (z_sI k 12 3) f c := hk
  have hd1 : DR (z_sI k 12 3) m := DR_fr h (Lk := []) (Ik := [12]) (Mk := []) (Nk := []) (Lm := []) (Im := []) (Mm := []) (Nm := []) (fr_sI fr_0 (by decide)) fr_0 (by decide) (by decide) (by decide) (by decide) (by decide) (by decide) (by decide)
  refine mod_b hk1 hd1 (fun o f c g1 g2 => ?_) (fun k' m' hq hk' => ?_)
  · show z_po ((k_De_decode_75 o.1 t o.2).bind S1) _
    unfold k_De_decode_75 k_De_decode_93
    rw [if_neg g1, if_neg g1, po_bs2]
    exact S1_no _ f c g1 g2
  · obtain ⟨q1, q2, q3, q4⟩ := hq
    exact ha k' m' q1 q4 (fr_t (fr_sI fr_0 (by decide)) q2) q3 hk'
theorem told {β : Type} {k0 k : z_Sg} {t : Int32} (hu : f_De_isToldWithModrm k = some 1) {y : Option (Sum z_Dd β)} {Q : z_Sg → β → Prop} (ha : z_r k0 ((k_De_decode_75 (-1) t k).bind S1) y Q) : z_r k0 ((f_De_isToldWithModrm k).bind (fun u => (k_De_decode_75 (if u = 0 then 6 else -1) t k).bind S1)) y Q := by
  rw [hu]
  exact ha
theorem untold {β : Type} {k0 k m : z_Sg} {t : Int32} (hu : f_De_isToldWithModrm k = some 0) (hk : ∃ f c, KF k0 k f c) (h : DR k m) {l : z_Sg → Option (Sum z_Dd β)} {Q : z_Sg → β → Prop} : z_r k0 ((f_De_isToldWithModrm k).bind (fun u => (k_De_decode_75 (if u = 0 then 6 else -1) t k).bind S1)) (z_eb (e_f_Mo_refuse 6 m) l) Q := by
  rw [hu]
  have : (some (0 : Int32)).bind (fun u => (k_De_decode_75 (if u = 0 then 6 else -1) t k).bind S1) = some (6, k) := rfl
  rw [this]
  exact r_ref (by decide) (by decide) hk (DR_5 h) (DR_c h)
def PM (k m k' m' : z_Sg) : Prop := DR k' m' ∧ MR k' m' ∧ (z_gI k' 12 = 3 ∨ PLr k' m') ∧ fr [6, 7, 8] [3, 4, 7, 8, 9] [] [] k k' ∧ fr [6] [1, 6, 12, 13, 14, 17] [3] [] m m'
theorem MR_fr {k m k' m' : z_Sg} (h : MR k m) {Lk Ik Mk Nk Lm Im Mm Nm : List Nat} (fk : fr Lk Ik Mk Nk k k') (fm : fr Lm Im Mm Nm m m') (h1 : ∀ j ∈ Ik, j ≠ 12 ∧ j ≠ 13 ∧ j ≠ 14) (h3 : ∀ j ∈ Im, j ≠ 7 ∧ j ≠ 8 ∧ j ≠ 9) : MR k' m' := by
  obtain ⟨b, hb, e1, e2, e3, e4, e5, e6⟩ := h
  have ki : ∀ j, (j = 12 ∨ j = 13 ∨ j = 14) → z_gI k' j = z_gI k j := fun j hj => fr_I fk j (fun x => by have := h1 j x; omega)
  have mi : ∀ j, (j = 7 ∨ j = 8 ∨ j = 9) → z_gI m' j = z_gI m j := fun j hj => fr_I fm j (fun x => by have := h3 j x; omega)
  refine ⟨b, hb, ?_, ?_, ?_, ?_, ?_, ?_⟩
  · rw [ki 12 (by omega)]; exact e1
  · rw [mi 7 (by omega)]; exact e2
  · rw [ki 13 (by omega)]; exact e3
  · rw [mi 8 (by omega)]; exact e4
  · rw [ki 14 (by omega)]; exact e5
  · rw [mi 9 (by omega)]; exact e6
theorem dec_p {β : Type} {k0 k m : z_Sg} (hk : ∃ f c, KF k0 k f c) (h : DR k m) (hM : MR k m) {t : Int32} {l : z_Sg → Option (Sum z_Dd β)} {Q : z_Sg → β → Prop} (ha : ∀ k' m', PM k m k' m' → (∃ f c, KF k0 k' f c) → z_r k0 ((k_De_decode_93 (-1) t k').bind S1) (l m') Q) : z_r k0 ((k_De_decode_75 (-1) t k).bind S1) (z_eb (e_f_Mo_takePlace m) l) Q := by
  unfold k_De_decode_75
  rw [if_pos rfl]
  by_cases c3 : z_gI k 12 = 3
  · have c3' : z_gI m 7 = 3 := (MR_3 hM).mp c3
    rw [if_pos c3]
    have e : e_f_Mo_takePlace m = some (.inr (z_sL (z_sI (z_sI (z_sI m 13 (-1)) 14 (-1)) 17 0) 6 0)) := by
      unfold e_f_Mo_takePlace
      rw [po_nm2, po_nm2, po_nm2, po_nm2, if_pos (show z_gI (z_sL (z_sI (z_sI (z_sI m 13 (-1)) 14 (-1)) 17 0) 6 0) 7 = 3 from c3')]
      rfl
    rw [e]
    show z_r k0 _ (l (z_sL (z_sI (z_sI (z_sI m 13 (-1)) 14 (-1)) 17 0) 6 0)) Q
    have fm : fr [6] [13, 14, 17] [] [] m (z_sL (z_sI (z_sI (z_sI m 13 (-1)) 14 (-1)) 17 0) 6 0) := fr_sL (fr_sI (fr_sI (fr_sI fr_0 (by decide)) (by decide)) (by decide)) (by decide)
    refine ha k _ ⟨DR_fr h (Lk := []) (Ik := []) (Mk := []) (Nk := []) fr_0 fm (by decide) (by decide) (by decide) (by decide) (by decide) (by decide) (by decide), MR_fr hM (Lk := []) (Ik := []) (Mk := []) (Nk := []) fr_0 fm (by decide) (by decide), Or.inl c3, fr_0, fr_w fm (by decide) (by decide) (by decide) (by decide)⟩ hk
  · rw [if_neg c3]
    refine r_bb S1 (place_rel hk h hM c3) (fun o f c g1 g2 => ?_) (fun o b hb => ?_)
    · unfold k_De_decode_93
      rw [if_neg g1, po_bs2]
      exact S1_no _ f c g1 g2
    · obtain ⟨q1, q2, q3, q4⟩ := hb
      refine ha o b ⟨q1, MR_fr hM q2 q3 (by decide) (by decide), Or.inr q4, q2, q3⟩ ?_
      exact KF_1 (hk.choose_spec.choose_spec) o (fK_KF ⟨_, _, _, _, q2, by decide, by decide, by decide⟩)
