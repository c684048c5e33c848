theorem byte_N {b : Int32} (h : y_in b 0 255) : ∃ n, n < 256 ∧ b = nI n := by
  obtain ⟨n, hn, e⟩ := wb_of32 b
  have h1 := h.1
  have h2 := h.2
  rw [e] at h1 h2
  rcases Nat.lt_or_ge n (2 ^ 31) with h3 | h3
  · have e2 : (nI n).toInt = n := Int32.toInt_ofNat_of_lt h3
    exact ⟨n, by omega, e⟩
  · exfalso
    have e2 : (nI n).toInt = (n : Int) - 2 ^ 32 := by
      show (BitVec.ofNat 32 n).toInt = _
      rw [BitVec.toInt_eq_toNat_cond, BitVec.toNat_ofNat, Nat.mod_eq_of_lt hn, if_neg (by omega)]
      rfl
    omega
theorem KF_1 {k0 k : z_Sg} {f : Int64} {c : Int32} (h : KF k0 k f c) (k' : z_Sg) (h2 : ∃ f' c', KF k k' f' c') : ∃ f' c', KF k0 k' f' c' := by
  obtain ⟨f', c', h2⟩ := h2
  exact ⟨f', c', KF_tr h2 ⟨f, c, h⟩⟩
def OQ (k m : z_Sg) : Prop := DR k m ∧ ∃ n, n < 256 ∧ z_gI m 15 = nI n ∧ ((z_gI m 18 = 0 ∧ z_gI k 11 = nI n) ∨ (z_gI m 18 = 1 ∧ z_gI k 11 = nI (256 + n)))
abbrev z_FOf : (Int32 × z_Sg → Option (Int32 × z_Sg)) → Int32 × z_Sg → Option (Int32 × z_Sg) := fun ih22 a => kb_De_fetchOpcode_22 ih22 a.1 a.2
abbrev z_MOf : (Int32 × z_Sg → Option (Sum z_Dd z_Sg)) → Int32 × z_Sg → Option (Sum z_Dd z_Sg) := fun jh25 a => e_kb_Mo_open_25 jh25 a.1 a.2
theorem fetch_b {γ : Type} {k0 k m : z_Sg} (hk : ∃ f c, KF k0 k f c) (h : DR k m) {kk : Int32 × z_Sg → Option (Int32 × z_Sg)} {l : Int32 × z_Sg → Option (Sum z_Dd γ)} {Q : z_Sg → γ → Prop} (hd : ∀ o f c, ¬ o.1 = -1 → KF k0 o.2 f c → z_po (kk o) (fun o' => ¬ o'.1 = -1 ∧ KF k0 o'.2 f c)) (ha : ∀ k' b, FQ k m k' b → (∃ f c, KF k0 k' f c) → z_r k0 (kk (-1, k')) (l b) Q) : z_r k0 ((f_De_fetch k).bind kk) (z_eb (e_f_Mo_fetch m) l) Q := by
  refine r_b (r_k (fetch_rel h) (fun o f c h2 => KF_tr h2 hk)) hd (fun k' b hb => ha k' b hb ?_)
  obtain ⟨f, x, c, h1, h2, h3, h4, h5⟩ := hb
  obtain ⟨f0, c0, hk⟩ := hk
  exact KF_1 hk k' ⟨z_gL k 5, z_gI k 1, by rw [h3]; exact KF_self k⟩
theorem no_go {k0 : z_Sg} (o : Int32 × z_Sg) (f : Int64) (c : Int32) (h1 : ¬ o.1 = -1) (h2 : KF k0 o.2 f c) (A : Option (Int32 × z_Sg)) : z_po (if o.1 = (-1 : Int32) then A else some (o.1, o.2)) (fun o' => ¬ o'.1 = -1 ∧ KF k0 o'.2 f c) := po_f h1 (po_s ⟨h1, h2⟩)
theorem op_67 {k0 k m : z_Sg} (hk : ∃ f c, KF k0 k f c) (h : DR k m) {n : Nat} (hn : n < 256) (hl : z_gI k 4 = nI n) : z_r k0 (k_De_fetchOpcode_67 k) (e_k_Mo_open_128 (nI n) m) OQ := by
  have i15 : ∀ n, n < 256 → (nI n = (15 : Int32) ↔ n = 15) := by decide +kernel
  unfold k_De_fetchOpcode_67 e_k_Mo_open_128
  refine r_nK (fun q6 e6 => ?_)
  have e11 : z_gI q6 11 = nI n := by rw [e6]; exact hl
  rw [e11]
  obtain ⟨f0, c0, hk0⟩ := hk
  have hk6 : ∃ f c, KF k0 q6 f c := ⟨f0, c0, by rw [e6]; exact hk0⟩
  have h6 : DR q6 m := by
    rw [e6]
    obtain ⟨hS, ha, hw, ⟨c, hc, e1, e2, hf⟩, hr⟩ := h
    refine ⟨hS, ha, hw, ⟨c, hc, e1, e2, fun x => ?_⟩, hr⟩
    have := hf x
    rw [loc_mk] at this ⊢
    exact this
  by_cases h15 : n = 15
  · rw [if_pos ((i15 n hn).mpr h15), if_pos ((i15 n hn).mpr h15)]
    unfold e_k_Mo_open_148
    refine r_GM (fun _ => r_nM (fun q9 e9 => ?_))
    have e18 : ¬ z_gI q9 18 = 0 := by rw [e9]; show ¬ (1 : Int32) = 0; decide
    rw [if_neg e18]
    have h9 : DR q6 q9 := by rw [e9]; exact h6
    refine fetch_b hk6 h9 (fun o f c h1 h2 => po_n (fun q9' e9' => po_s ⟨h1, by rw [e9']; exact h2⟩)) (fun k' b hb hk' => ?_)
    obtain ⟨f, x, c, h1, h2, h3, h4, h5, h6'⟩ := hb
    obtain ⟨n', hn', en'⟩ := byte_N h6'
    unfold k_Mo_open_167
    refine r_nK (fun q9' e9' => ?_)
    show z_r k0 _ (some (.inr (z_sI b.2 15 b.1))) OQ
    refine r_s ⟨?_, n', hn', en', Or.inr ⟨?_, ?_⟩⟩
    · rw [e9']
      obtain ⟨hS, ha, hw, ⟨c, hc, e1, e2, hf⟩, hr⟩ := h5
      refine ⟨hS, ha, hw, ⟨c, hc, e1, e2, fun x => ?_⟩, hr⟩
      have := hf x
      rw [loc_mk] at this ⊢
      exact this
    · show z_gI b.2 18 = 1
      rw [h4, e9]; rfl
    · rw [e9']
      show (256 : Int32) + z_gI k' 4 = _
      rw [h3]
      show (256 : Int32) + b.1 = _
      rw [en', show (256 : Int32) = nI 256 from rfl, nI_add]
  · rw [if_neg (fun x => h15 ((i15 n hn).mp x)), if_neg (fun x => h15 ((i15 n hn).mp x))]
    unfold e_k_Mo_open_147 e_k_Mo_open_148
    refine r_GM (fun _ => r_nM (fun q9 e9 => ?_))
    have e18 : z_gI q9 18 = 0 := by rw [e9]; rfl
    rw [if_pos e18]
    unfold k_Mo_open_167
    show z_r k0 _ (some (.inr (z_sI q9 15 (nI n)))) OQ
    exact r_s ⟨by rw [e9]; exact h6, n, hn, rfl, Or.inl ⟨e18, e11⟩⟩
theorem pre_ok : ∀ n, n < 256 → ((nI n &&& (240 : Int32)) = 64 ↔ (64 ≤ n ∧ n ≤ 79)) ∧ (nI n = (102 : Int32) ↔ n = 102) ∧ (nI n = (242 : Int32) ↔ n = 242) ∧ (nI n = (243 : Int32) ↔ n = 243) ∧ (nI n < (64 : Int32) ↔ n < 64) ∧ ((79 : Int32) < nI n ↔ 79 < n) ∧ (nI n ≤ (240 : Int32) ↔ n ≤ 240) ∧ (nI n = 0 ↔ n = 0) := by decide +kernel
theorem op_loop {k0 : z_Sg} : ∀ (f1 f2 : Nat) (i : Nat) (k m : z_Sg), i ≤ 15 → (∃ f c, KF k0 k f c) → DR k m → z_gI k 3 = nI i → z_r k0 (z_lo z_FOf f1 (nI i, k)) (z_eb (e_f_Mo_fetch m) (fun r5 => z_lo z_MOf f2 (r5.1, r5.2))) OQ := by
  intro f1
  induction f1 with
  | zero => intro f2 i k m _ _ _ _; exact r_0K
  | succ f1 ih =>
    intro f2 i k m hi hk h hci
    show z_r k0 (kb_De_fetchOpcode_22 (z_lo z_FOf f1) (nI i) k) _ OQ
    unfold kb_De_fetchOpcode_22
    have i15 : ∀ i, i ≤ 15 → ¬ ((15 : Int32) < nI i) := by decide +kernel
    refine r_fK (i15 i hi) ?_
    refine fetch_b hk h (fun o f c h1 h2 => no_go o f c h1 h2 _) (fun k' b hb hk' => ?_)
    obtain ⟨f, x, c, h1, h2, h3, h4, h5, h6⟩ := hb
    have hcc : c = i := by
      rw [hci] at h2
      have : ∀ c, c < 16 → ∀ i, i < 16 → nI i = nI c → c = i := by decide +kernel
      exact this c (by omega) i (by omega) h2
    subst hcc
    obtain ⟨n, hn, en⟩ := byte_N h6
    obtain ⟨p1, p2, p3, p4, p5, p6, p7, p8⟩ := pre_ok n hn
    have hl : z_gI k' 4 = nI n := by rw [h3]; exact en
    have hc' : z_gI k' 3 = nI (c + 1) := by rw [h3]; rfl
    refine r_tK rfl ?_
    show z_r k0 ((f_De_isPrefix (z_gI k' 4) k').bind _) _ OQ
    rw [hl, en]
    cases f2 with
    | zero => exact r_0M
    | succ f2 =>
      show z_r k0 _ (e_kb_Mo_open_25 (z_lo z_MOf f2) (nI n) b.2) OQ
      have go : ∀ (k2 m2 : z_Sg), 64 ≤ n → (∃ f c, KF k0 k2 f c) → DR k2 m2 → z_gI k2 3 = nI (c + 1) → z_r k0 (z_nm (nI c + (1 : Int32)) (fun n15 => z_lo z_FOf f1 (n15, k2))) (e_k_Mo_open_120 (z_lo z_MOf f2) m2) OQ := by
        intro k2 m2 _ hk2 hd2 hc2
        refine r_nK (fun n15 e15 => ?_)
        rw [e15, nI_S]
        unfold e_k_Mo_open_120
        exact ih f2 (c + 1) k2 m2 (by omega) hk2 hd2 hc2
      have isP : f_De_isPrefix (nI n) k' = some (if (64 ≤ n ∧ n ≤ 79) ∨ n = 102 ∨ n = 242 ∨ n = 243 then 1 else 0) := by
        unfold f_De_isPrefix k_De_isPrefix_30 k_De_isPrefix_35 z_gd
        simp only [p1, p2, p3, p4]
        by_cases c1 : 64 ≤ n ∧ n ≤ 79
        · rw [if_pos c1, if_pos (Or.inl c1)]; rfl
        · rw [if_neg c1]
          by_cases c2 : n = 102
          · rw [if_pos c2, if_pos (Or.inr (Or.inl c2))]; rfl
          · rw [if_neg c2]
            by_cases c3 : n = 242
            · rw [if_pos c3, if_pos (Or.inr (Or.inr (Or.inl c3)))]; rfl
            · rw [if_neg c3]
              by_cases c4 : n = 243
              · rw [if_pos c4, if_pos (Or.inr (Or.inr (Or.inr c4)))]; rfl
              · rw [if_neg c4]; show some (0 : Int32) = _; rw [if_neg (by omega)]
      rw [isP, po_bs2]
      by_cases hp : (64 ≤ n ∧ n ≤ 79) ∨ n = 102 ∨ n = 242 ∨ n = 243
      · rw [if_pos hp, if_neg (by decide)]
        obtain ⟨hS, ha, hw, hcnt, g6, g10, g5, gb⟩ := h5
        have hM : ∀ P : Option (Sum z_Dd z_Sg) → Prop, P (e_k_Mo_open_65 (z_lo z_MOf f2) (nI n) b.2) → P (e_kb_Mo_open_25 (z_lo z_MOf f2) (nI n) b.2) := by
          intro P hP
          unfold e_kb_Mo_open_25
          simp only [p2, p3, p4, p5, p6]
          by_cases c2 : n = 102
          · rw [if_pos c2]; exact hP
          · rw [if_neg c2]
            by_cases c3 : n = 242
            · rw [if_pos c3]; exact hP
            · rw [if_neg c3]
              by_cases c4 : n = 243
              · rw [if_pos c4]; exact hP
              · rw [if_neg c4, if_neg (by omega), if_neg (by omega)]; exact hP
        refine hM (fun y => z_r k0 _ y OQ) ?_
        have both : ∀ (rx sh rp : Int32), (∀ P : Option z_Sg → Prop, (P (some (z_sI (z_sI (z_sI k' 6 rx) 5 sh) 10 rp))) → P (f_De_takePrefix (nI n) k')) → True := fun _ _ _ _ => trivial
        have dr : ∀ (k2 m2 : z_Sg), (∃ f c, KF k' k2 f c) → Sim k2 m2 → z_gI m2 4 = -1 → z_gI m2 5 = 0 → z_gI k2 3 = z_gI k' 3 → z_gI m2 6 = z_gI b.2 6 → z_gL k2 0 = z_gL k' 0 → (∀ pl how, f_Pa_locate pl how k2 = f_Pa_locate pl how k') → z_gL k2 6 = z_gL k' 6 → z_gI k2 6 = z_gI m2 10 → z_gI k2 10 = z_gI m2 11 → z_gI k2 5 = z_gI m2 16 → z_bo (z_gI k2 5) → DR k2 m2 := by
          intro k2 m2 _ s1 s2 s3 s4 s5 s6 s7 s8 s9 s10 s11 s12
          obtain ⟨cc, t1, t2, t3, t4⟩ := hcnt
          refine ⟨s1, s2, s3, ⟨cc, t1, s4.trans t2, s5.trans t3, fun x => ?_⟩, s9, s10, s11, s12⟩
          rw [s6, s7, s8]
          exact t4 x
        unfold f_De_takePrefix k_De_takePrefix_16 k_De_takePrefix_45
        unfold e_k_Mo_open_65 e_k_Mo_open_82 e_k_Mo_open_83 e_k_Mo_open_100 e_k_Mo_open_105
        simp only [p1, p2, p5, p6, p7]
        have kf : ∀ k2 : z_Sg, (∃ f c, KF k' k2 f c) → ∃ f c, KF k0 k2 f c := fun k2 hh => by
          obtain ⟨f0, c0, hk0⟩ := hk'
          exact KF_1 hk0 k2 hh
        by_cases c1 : 64 ≤ n ∧ n ≤ 79
        · have c2 : ¬ n = 102 := by omega
          have r0 : ¬ nI n = 0 := fun x => by have := p8.mp x; omega
          simp only [if_pos c1, if_neg c2, if_neg (show ¬ n < 64 by omega), if_neg (show ¬ 79 < n by omega), if_pos (show n ≤ 240 by omega)]
          show z_r k0 ((if nI n = 0 then _ else some (z_sI k' 6 (nI n))).bind _) (z_nm (z_sI b.2 10 (nI n)) _) OQ
          rw [if_neg r0, po_bs2]
          refine r_nM (fun q16 e16 => ?_)
          have k16 : z_gI q16 16 = z_gI k' 5 := by rw [e16]; exact g5.symm
          rw [k16]
          rcases gb with g0 | g1
          · rw [if_pos g0]
            refine r_GM (fun _ => r_nM (fun q19 e19 => ?_))
            refine go _ _ (by omega) (kf _ ⟨_, _, KF_self k'⟩) (dr _ _ ⟨_, _, KF_self k'⟩ ?_ ?_ ?_ rfl ?_ rfl (fun pl how => by rw [loc_mk, loc_mk k']; rfl) rfl ?_ ?_ ?_ ?_) hc'
            · rw [e19, e16]; exact hS
            · rw [e19, e16]; exact ha
            · rw [e19, e16]; exact hw
            · rw [e19, e16]; rfl
            · rw [e19, e16]; rfl
            · rw [e19, e16]; exact g10
            · rw [e19]; exact g0
            · exact Or.inl g0
          · rw [if_neg (by rw [g1]; decide)]
            refine r_GM (fun _ => r_nM (fun q19 e19 => ?_))
            refine go _ _ (by omega) (kf _ ⟨_, _, KF_self k'⟩) (dr _ _ ⟨_, _, KF_self k'⟩ ?_ ?_ ?_ rfl ?_ rfl (fun pl how => by rw [loc_mk, loc_mk k']; rfl) rfl ?_ ?_ ?_ ?_) hc'
            · rw [e19, e16]; exact hS
            · rw [e19, e16]; exact ha
            · rw [e19, e16]; exact hw
            · rw [e19, e16]; rfl
            · rw [e19, e16]; rfl
            · rw [e19, e16]; exact g10
            · rw [e19]; exact g1
            · exact Or.inr g1
        · have c79 : 79 < n := by omega
          simp only [if_neg c1, if_neg (show ¬ n < 64 by omega), if_pos c79]
          by_cases c2 : n = 102
          · simp only [if_pos c2, if_pos (show n ≤ 240 by omega)]
            show z_r k0 ((some (z_sI (z_sI k' 6 0) 5 1)).bind _) (z_nm (z_sI b.2 10 0) _) OQ
            rw [po_bs2]
            refine r_nM (fun q16 e16 => ?_)
            have fin : z_r k0 (z_nm (nI c + (1 : Int32)) (fun n15 => z_lo z_FOf f1 (n15, z_sI (z_sI k' 6 0) 5 1))) (z_gd (z_bo 1) (z_nm (z_sI q16 16 1) (fun q19 => e_k_Mo_open_120 (z_lo z_MOf f2) q19))) OQ := by
              refine r_GM (fun _ => r_nM (fun q19 e19 => ?_))
              refine go _ _ (by omega) (kf _ ⟨_, _, KF_self k'⟩) (dr _ _ ⟨_, _, KF_self k'⟩ ?_ ?_ ?_ rfl ?_ rfl (fun pl how => by rw [loc_mk, loc_mk k']; rfl) rfl ?_ ?_ ?_ ?_) hc'
              · rw [e19, e16]; exact hS
              · rw [e19, e16]; exact ha
              · rw [e19, e16]; exact hw
              · rw [e19, e16]; rfl
              · rw [e19, e16]; rfl
              · rw [e19, e16]; exact g10
              · rw [e19]; rfl
              · exact Or.inr rfl
            exact r_iM (fun _ => fin) (fun _ => fin)
          · simp only [if_neg c2, if_neg (show ¬ n ≤ 240 by omega)]
            show z_r k0 ((if z_gI (z_sI k' 6 0) 6 = 0 then some (z_sI (z_sI k' 6 0) 10 (nI n)) else some (z_sI k' 6 0)).bind _) (z_nm (z_sI b.2 10 0) _) OQ
            rw [if_pos (show z_gI (z_sI k' 6 0) 6 = 0 from rfl), po_bs2]
            refine r_nM (fun q16 e16 => ?_)
            have k16 : z_gI q16 16 = z_gI k' 5 := by rw [e16]; exact g5.symm
            rw [k16]
            rcases gb with g0 | g1
            · rw [if_pos g0]
              refine r_GM (fun _ => r_nM (fun q19 e19 => r_nM (fun q22 e22 => ?_)))
              refine go _ _ (by omega) (kf _ ⟨_, _, KF_self k'⟩) (dr _ _ ⟨_, _, KF_self k'⟩ ?_ ?_ ?_ rfl ?_ rfl (fun pl how => by rw [loc_mk, loc_mk k']; rfl) rfl ?_ ?_ ?_ ?_) hc'
              · rw [e22, e19, e16]; exact hS
              · rw [e22, e19, e16]; exact ha
              · rw [e22, e19, e16]; exact hw
              · rw [e22, e19, e16]; rfl
              · rw [e22, e19, e16]; rfl
              · rw [e22, e19, e16]; rfl
              · rw [e22, e19]; exact g0
              · exact Or.inl g0
            · rw [if_neg (by rw [g1]; decide)]
              refine r_GM (fun _ => r_nM (fun q19 e19 => r_nM (fun q22 e22 => ?_)))
              refine go _ _ (by omega) (kf _ ⟨_, _, KF_self k'⟩) (dr _ _ ⟨_, _, KF_self k'⟩ ?_ ?_ ?_ rfl ?_ rfl (fun pl how => by rw [loc_mk, loc_mk k']; rfl) rfl ?_ ?_ ?_ ?_) hc'
              · rw [e22, e19, e16]; exact hS
              · rw [e22, e19, e16]; exact ha
              · rw [e22, e19, e16]; exact hw
              · rw [e22, e19, e16]; rfl
              · rw [e22, e19, e16]; rfl
              · rw [e22, e19, e16]; rfl
              · rw [e22, e19]; exact g1
              · exact Or.inr g1
      · rw [if_neg hp, if_pos rfl]
        have hM : e_kb_Mo_open_25 (z_lo z_MOf f2) (nI n) b.2 = e_k_Mo_open_128 (nI n) b.2 := by
          unfold e_kb_Mo_open_25
          simp only [p2, p3, p4, p5, p6]
          rw [if_neg (by omega), if_neg (by omega), if_neg (by omega)]
          by_cases c5 : n < 64
          · rw [if_pos c5]
          · rw [if_neg c5, if_pos (by omega)]
        rw [hM]
        exact op_67 hk' h5 hn hl
theorem open_rel {k0 k m : z_Sg} (hk : ∃ f c, KF k0 k f c) (hS : Sim k m) (ha : z_gI m 4 = -1) (hw : z_gI m 5 = 0) : z_r k0 (f_De_fetchOpcode k) (e_f_Mo_open m) OQ := by
  unfold f_De_fetchOpcode e_f_Mo_open k_De_fetchOpcode_22 e_k_Mo_open_25
  refine r_nK (fun q1 e1 => r_nK (fun q2 e2 => r_nK (fun q3 e3 => r_nK (fun q4 e4 => ?_))))
  refine r_nM (fun p1 f1 => r_nM (fun p2 f2 => r_nM (fun p3 f3 => r_nM (fun p4 f4 => ?_))))
  refine op_loop 2000 2000 0 q4 p4 (by omega) ?_ ?_ ?_
  · obtain ⟨f, c, hk⟩ := hk
    exact ⟨f, c, by rw [e4, e3, e2, e1]; exact hk⟩
  · rw [e4, e3, e2, e1, f4, f3, f2, f1]
    exact ⟨hS, ha, hw, ⟨0, by omega, rfl, rfl, fun h => absurd h (by omega)⟩, rfl, rfl, rfl, Or.inl rfl⟩
  · rw [e4, e3, e2, e1]; rfl
