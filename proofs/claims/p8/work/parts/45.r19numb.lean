abbrev z_NKf : (Int32 × Int32 × z_Sg → Option (Int32 × z_Sg)) → Int32 × Int32 × z_Sg → Option (Int32 × z_Sg) := fun ih7 a => kb_De_fetchNumber_7 ih7 a.1 a.2.1 a.2.2
abbrev z_NMf : (Int32 × Int64 × Int32 × z_Sg → Option (Sum z_Dd (Int64 × z_Sg))) → Int32 × Int64 × Int32 × z_Sg → Option (Sum z_Dd (Int64 × z_Sg)) := fun jh5 a => e_kb_Mo_fetchNumber_5 jh5 a.1 a.2.1 a.2.2.1 a.2.2.2
def fKd (k k' : z_Sg) : Prop := fr [6, 7] [3, 4] [] [] k k'
def fMd (m m' : z_Sg) : Prop := fr [] [1, 6] [3] [] m m'
def NQ (k m : z_Sg) (k' : z_Sg) (b : Int64 × z_Sg) : Prop := DR k' b.2 ∧ fKd k k' ∧ fMd m b.2 ∧ z_gL k' 7 = b.1
theorem fKd_KF {k0 k k' : z_Sg} (h : fKd k k') (hk : ∃ f c, KF k0 k f c) : ∃ f c, KF k0 k' f c := by
  obtain ⟨f, c, hk⟩ := hk
  exact KF_1 hk k' (fK_KF ⟨_, _, _, _, h, by decide, by decide, by decide⟩)
theorem FQ_fr {k m k' : z_Sg} {b : Int32 × z_Sg} (h : FQ k m k' b) : fKd k k' ∧ fMd m b.2 := by
  obtain ⟨f, x, c, h1, h2, h3, h4, h5, h6⟩ := h
  rw [h3, h4]
  exact ⟨fr_sI (fr_sI (fr_sL fr_0 (by decide)) (by decide)) (by decide), fr_sI (fr_sM (fr_sI fr_0 (by decide)) (by decide)) (by decide)⟩
theorem DR_sL {k m : z_Sg} (h : DR k m) (j : Nat) (v : Int64) (hj : 7 ≤ j) : DR (z_sL k j v) m := by
  obtain ⟨⟨s0, s1, s2, s3, s4, s5, s6, s7, s8, s9, s10⟩, ha, hw, ⟨c, hc, e1, e2, hf⟩, hr⟩ := h
  have l : ∀ i, i < 7 → z_gL (z_sL k j v) i = z_gL k i := fun i hi => if_neg (by omega)
  refine ⟨⟨s0, (l 0 (by omega)).trans s1, (l 1 (by omega)).trans s2, (l 2 (by omega)).trans s3, (l 3 (by omega)).trans s4, (l 4 (by omega)).trans s5, (l 5 (by omega)).trans s6, s7, s8, s9, s10⟩, ha, hw, ⟨c, hc, e1, e2, fun x => ?_⟩, hr⟩
  have := hf x
  rw [l 0 (by omega), l 6 (by omega)]
  rw [loc_mk] at this ⊢
  rw [l 1 (by omega)]
  exact this
theorem num_loop {k0 kb mb : z_Sg} {n : Nat} (h1 : 1 ≤ n) (h8 : n ≤ 8) : ∀ (f1 f2 i : Nat) (k m : z_Sg) (v : Int64), i ≤ n → (∃ f c, KF k0 k f c) → DR k m → fKd kb k → fMd mb m → z_gL k 7 = v → z_r k0 (z_lo z_NKf f1 (nI n, nI i, k)) (z_lo z_NMf f2 (nI n, v, nI i, m)) (NQ kb mb) := by
  intro f1
  induction f1 with
  | zero => intro f2 i k m v _ _ _ _ _ _; exact r_0K
  | succ f1 ih =>
    intro f2 i k m v hi hk h fk fm hv
    cases f2 with
    | zero => exact r_0M
    | succ f2 =>
      show z_r k0 (kb_De_fetchNumber_7 (z_lo z_NKf f1) (nI n) (nI i) k) (e_kb_Mo_fetchNumber_5 (z_lo z_NMf f2) (nI n) v (nI i) m) _
      unfold kb_De_fetchNumber_7 e_kb_Mo_fetchNumber_5
      have hle : nI n ≤ nI i ↔ n ≤ i := nI_leI (by omega) (by omega)
      by_cases hn : n ≤ i
      · have hni : i = n := by omega
        rw [if_pos (hle.mpr hn), if_pos (hle.mpr hn)]
        have h0 : ¬ nI n ≤ 0 := by
          rw [show (0 : Int32) = nI 0 from rfl, nI_leI (by omega) (by omega)]; omega
        rw [if_neg h0, K_signed _ h1 h8, M_extended _ h1 h8, hv, po_bs2, po_bs2]
        refine r_nK (fun q5 e5 => ?_)
        unfold k_De_fetchNumber_65
        refine r_s ⟨?_, ?_, fm, ?_⟩
        · rw [e5]; exact DR_sL h 7 _ (by omega)
        · rw [e5]; exact fr_sL fk (by decide)
        · rw [e5]; rfl
      · rw [if_neg (fun x => hn (hle.mp x)), if_neg (fun x => hn (hle.mp x))]
        refine fetch_b hk h (fun o f c g1 g2 => no_go o f c g1 g2 _) (fun k' b hb hk' => ?_)
        refine r_tK rfl ?_
        obtain ⟨fk', fm'⟩ := FQ_fr hb
        obtain ⟨f, x, c, g1, g2, g3, g4, g5, g6⟩ := hb
        refine r_nK (fun q8 e8 => r_nK (fun n9 e9 => r_nM (fun n4 e4 => r_nM (fun n5 e5 => ?_))))
        rw [e9, e5, nI_S]
        have el : z_gI k' 4 = b.1 := by rw [g3]; rfl
        have e7 : z_gL k' 7 = v := by rw [g3]; exact hv
        have hk8 : ∃ f c, KF k0 q8 f c := by
          obtain ⟨f0, c0, hk0⟩ := hk'
          exact ⟨f0, c0, by rw [e8]; exact hk0⟩
        refine ih f2 (i + 1) q8 b.2 n4 (by omega) hk8 (by rw [e8]; exact DR_sL g5 7 _ (by omega)) (by rw [e8]; exact fr_sL (fr_t fk fk') (by decide)) (fr_t fm fm') ?_
        rw [e8, e4]
        show (z_gL k' 7 ||| z_lshl (z_gI k' 4).toInt64 (8 * nI i)) = _
        rw [e7, el]
theorem num_rel {k0 k m : z_Sg} {n : Nat} (h1 : 1 ≤ n) (h8 : n ≤ 8) (hk : ∃ f c, KF k0 k f c) (h : DR k m) : z_r k0 (f_De_fetchNumber (nI n) k) (e_f_Mo_fetchNumber (nI n) m) (NQ k m) := by
  unfold f_De_fetchNumber e_f_Mo_fetchNumber k_De_fetchNumber_7 e_k_Mo_fetchNumber_5
  refine r_nK (fun q1 e1 => ?_)
  have hk1 : ∃ f c, KF k0 q1 f c := by
    obtain ⟨f0, c0, hk0⟩ := hk
    exact ⟨f0, c0, by rw [e1]; exact hk0⟩
  exact num_loop h1 h8 2000 2000 0 q1 m 0 (by omega) hk1 (by rw [e1]; exact DR_sL h 7 _ (by omega)) (by rw [e1]; exact fr_sL fr_0 (by decide)) fr_0 (by rw [e1]; rfl)
theorem num_0 (k : z_Sg) : f_De_fetchNumber 0 k = some (-1, z_sL k 7 0) := by
  unfold f_De_fetchNumber k_De_fetchNumber_7
  rw [po_nm2]
  show kb_De_fetchNumber_7 _ 0 0 (z_sL k 7 0) = _
  unfold kb_De_fetchNumber_7 k_De_fetchNumber_65
  rw [if_pos (by decide), if_pos (by decide)]
