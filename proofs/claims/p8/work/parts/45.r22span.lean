theorem Sim_fr {k m k' m' : z_Sg} (h : Sim k m) {Lk Ik Mk Nk Lm Im Mm Nm : List Nat} (fk : fr Lk Ik Mk Nk k k') (fm : fr Lm Im Mm Nm m m') (h1 : ∀ j ∈ Lk, 6 ≤ j) (h2 : ∀ j ∈ Ik, 3 ≤ j) (h3 : ∀ j ∈ Mk, 2 ≤ j) (h4 : ∀ j ∈ Lm, 6 ≤ j) (h5 : ∀ j ∈ Im, j = 1 ∨ 3 ≤ j) (h6 : ∀ j ∈ Mm, 1 ≤ j) (h7 : ∀ j ∈ Nm, 2 ≤ j) : Sim k' m' := by
  obtain ⟨s0, s1, s2, s3, s4, s5, s6, s7, s8, s9, s10⟩ := h
  have kl : ∀ j, j < 6 → z_gL k' j = z_gL k j := fun j hj => fr_L fk j (fun x => by have := h1 j x; omega)
  have ki : ∀ j, j < 3 → z_gI k' j = z_gI k j := fun j hj => fr_I fk j (fun x => by have := h2 j x; omega)
  have km : ∀ j, j < 2 → z_gM k' j = z_gM k j := fun j hj => fr_M fk j (fun x => by have := h3 j x; omega)
  have ml : ∀ j, j < 6 → z_gL m' j = z_gL m j := fun j hj => fr_L fm j (fun x => by have := h4 j x; omega)
  have mi : ∀ j, (j = 0 ∨ j = 2) → z_gI m' j = z_gI m j := fun j hj => fr_I fm j (fun x => by have := h5 j x; omega)
  have mm : z_gM m' 0 = z_gM m 0 := fr_M fm 0 (fun x => by have := h6 0 x; omega)
  have mn : ∀ j, j < 2 → z_gN m' j = z_gN m j := fun j hj => fr_N fm j (fun x => by have := h7 j x; omega)
  refine ⟨?_, ?_, ?_, ?_, ?_, ?_, ?_, ?_, ?_, ?_, ?_⟩
  · rw [km 0 (by omega), mm]; exact s0
  · rw [kl 0 (by omega), ml 0 (by omega)]; exact s1
  · rw [kl 1 (by omega), ml 1 (by omega)]; exact s2
  · rw [kl 2 (by omega), ml 2 (by omega)]; exact s3
  · rw [kl 3 (by omega), ml 3 (by omega)]; exact s4
  · rw [kl 4 (by omega), ml 4 (by omega)]; exact s5
  · rw [kl 5 (by omega), ml 5 (by omega)]; exact s6
  · rw [ki 1 (by omega), mi 0 (by omega)]; exact s7
  · rw [ki 2 (by omega), mi 2 (by omega)]; exact s8
  · rw [ki 0 (by omega), mn 1 (by omega)]; exact s9
  · rw [km 1 (by omega), mn 0 (by omega)]; exact s10
def SQr (A I n : Nat) (k m k' m' : z_Sg) : Prop := fr [] [I] [A] [] k k' ∧ fr [] [1] [3] [] m m' ∧ z_gI k' I = nI n ∧ ∀ i, i < n → z_gM k' A i = z_gM m' 3 i ∧ ¬ z_gM m' 3 i < 0
theorem min_8 {n : Nat} (hn : n ≤ 8) (q : z_Sg) : f_Ma_min (nI n) 8 q = some (nI n) := by
  have h : nI n ≤ 8 := by
    rw [show (8 : Int32) = nI 8 from rfl, nI_leI (by omega) (by omega)]; exact hn
  unfold f_Ma_min
  rw [if_neg (Int32.not_lt.mpr h)]
  rfl
theorem ref_no {β : Type} {k0 k m ki mi q8 : z_Sg} (hSi : Sim ki mi) (hS : Sim k m) (hk : KF k0 k (z_gL k 5) (z_gI k 1)) {Ls Is Ms Ns : List Nat} (fk : fr Ls Is Ms Ns k q8) (h1 : ∀ j ∈ Ls, 6 ≤ j) (h2 : ∀ j ∈ Is, 3 ≤ j) (h3 : ∀ j ∈ Ms, 2 ≤ j) {n4 a : Int64} {d : z_Dd} (hd : noD mi n4 a d) {w : Int32} (hw : ¬ w = -1) (e5 : z_gL mi 5 = z_gL m 5) (e0 : z_gI mi 0 = z_gI m 0) {Q : z_Sg → β → Prop} : z_r k0 ((f_Pa_refusal n4 a w q8).bind (fun r14 => some (r14.1, r14.2))) (some (.inl d)) Q := by
  rw [K_refusal, po_bs2]
  have kl : ∀ j, j < 6 → z_gL q8 j = z_gL k j := fun j hj => fr_L fk j (fun x => by have := h1 j x; omega)
  have ki : ∀ j, j < 3 → z_gI q8 j = z_gI k j := fun j hj => fr_I fk j (fun x => by have := h2 j x; omega)
  have km : ∀ j, j < 2 → z_gM q8 j = z_gM k j := fun j hj => fr_M fk j (fun x => by have := h3 j x; omega)
  obtain ⟨g1, g2, g3, g4, g5, g6, g7, g8, g9, g10, g11⟩ := hk
  rcases hd with ⟨d1, d2, d3⟩ | ⟨d1, d2, d3⟩
  · rw [if_pos d1]
    refine r_no hw ?_
    rw [d2, d3, e5, e0, ← Sim_5 hS, ← Sim_c hS]
    exact ⟨(km 0 (by omega)).trans g1, (km 1 (by omega)).trans g2, (kl 0 (by omega)).trans g3, (kl 1 (by omega)).trans g4, (kl 2 (by omega)).trans g5, (kl 3 (by omega)).trans g6, (kl 4 (by omega)).trans g7, kl 5 (by omega), ki 1 (by omega), (ki 2 (by omega)).trans g10, (ki 0 (by omega)).trans g11⟩
  · rw [if_neg d1]
    refine r_no (show ¬ (14 : Int32) = -1 by decide) ?_
    rw [d2, d3]
    exact ⟨(km 0 (by omega)).trans g1, (km 1 (by omega)).trans g2, (kl 0 (by omega)).trans g3, (kl 1 (by omega)).trans g4, (kl 2 (by omega)).trans g5, (kl 3 (by omega)).trans g6, (kl 4 (by omega)).trans g7, rfl, rfl, (ki 2 (by omega)).trans g10, (ki 0 (by omega)).trans g11⟩
theorem find_loop_7 {k0 k m : z_Sg} (hk : KF k0 k (z_gL k 5) (z_gI k 1)) (hS : Sim k m) {p : Int64} {how st st' : Int32} {n : Nat} (hn : n ≤ 8) : ∀ (f1 f2 i : Nat) (ki mi : z_Sg), i ≤ n → fr [] [16] [2] [] k ki → fr [] [1] [3] [] m mi → z_gI ki 16 = nI n → (∀ j, j < i → z_gM ki 2 j = z_gM mi 3 j ∧ ¬ z_gM mi 3 j < 0) → (0 < i → f_Pa_locate (p + (nI (i - 1)).toInt64) how k = some (z_gM ki 2 (i - 1)) ∧ ¬ z_gM ki 2 (i - 1) < 0) → z_r k0 (z_lo (fun ih16 (a : Int64 × Int32 × Int32 × Int32 × z_Sg) => kb_Sp_find_7_16 ih16 a.1 a.2.1 a.2.2.1 a.2.2.2.1 a.2.2.2.2) f1 (p, how, st, nI i, ki)) (z_lo (z_LUf p (nI n) how st') f2 (nI i, mi)) (SQr 2 16 n k m) := by
  intro f1
  induction f1 with
  | zero => intro f2 i ki mi _ _ _ _ _ _; exact r_0K
  | succ f1 ih =>
    intro f2 i ki mi hi fk fm hl hv hp
    cases f2 with
    | zero => exact r_0M
    | succ f2 =>
      show z_r k0 (kb_Sp_find_7_16 (z_lo (fun ih16 (a : Int64 × Int32 × Int32 × Int32 × z_Sg) => kb_Sp_find_7_16 ih16 a.1 a.2.1 a.2.2.1 a.2.2.2.1 a.2.2.2.2) f1) p how st (nI i) ki) (z_LUf p (nI n) how st' (z_lo (z_LUf p (nI n) how st') f2) (nI i, mi)) _
      unfold kb_Sp_find_7_16
      have hle : nI n ≤ nI i ↔ n ≤ i := nI_leI (by omega) (by omega)
      have hSi : Sim ki mi := Sim_fr hS fk fm (by decide) (by decide) (by decide) (by decide) (by decide) (by decide) (by decide)
      rw [hl]
      by_cases hin : n ≤ i
      · have : i = n := by omega
        subst this
        rw [if_pos (hle.mpr hin)]
        show z_r k0 _ (if nI i ≤ nI i then some (.inr mi) else _) _
        rw [if_pos (hle.mpr hin)]
        exact r_s ⟨fk, fm, hl, fun j hj => hv j hj⟩
      · rw [if_neg (fun x => hin (hle.mp x))]
        refine r_nK (fun n4 e4 => ?_)
        have eloc : ∀ x, f_Pa_locate x how ki = f_Pa_locate x how k := fun x => by
          rw [loc_mk, loc_mk k, fr_M fk 1 (by decide), fr_L fk 1 (by decide), fr_I fk 2 (by decide)]
        have next : ∀ (a : Int64), f_Pa_locate n4 how k = some a → ¬ a < 0 → ∀ (c : Int32), z_r k0 (k_Sp_find_7_128 (z_lo (fun ih16 (a : Int64 × Int32 × Int32 × Int32 × z_Sg) => kb_Sp_find_7_16 ih16 a.1 a.2.1 a.2.2.1 a.2.2.2.1 a.2.2.2.2) f1) p how st (nI i) (z_sM ki 2 i a)) (z_lo (z_LUf p (nI n) how st') f2 (nI i + 1, z_sM (z_sI mi 1 c) 3 i a)) (SQr 2 16 n k m) := by
          intro a ha h0 c
          unfold k_Sp_find_7_128
          refine r_nK (fun n11 e11 => ?_)
          rw [e11, nI_S]
          have u1 : ∀ j, z_gM (z_sM ki 2 i a) 2 j = if j = i then a else z_gM ki 2 j := fun j => rfl
          have u2 : ∀ j, z_gM (z_sM (z_sI mi 1 c) 3 i a) 3 j = if j = i then a else z_gM mi 3 j := fun j => rfl
          refine ih f2 (i + 1) _ _ (by omega) (fr_sM fk (by decide)) (fr_sM (fr_sI fm (by decide)) (by decide)) hl (fun j hj => ?_) (fun _ => ?_)
          · rw [u1, u2]
            by_cases hji : j = i
            · rw [if_pos hji, if_pos hji]; exact ⟨rfl, h0⟩
            · rw [if_neg hji, if_neg hji]; exact hv j (by omega)
          · rw [show i + 1 - 1 = i from rfl, u1, if_pos rfl, ← e4]
            exact ⟨ha, h0⟩
        have mst : ∀ (a : Int64), f_Pa_locate n4 how k = some a → ∀ (Kx : Option (Int32 × z_Sg)), (a < 0 → ∀ d, noD mi n4 a d → z_r k0 Kx (some (.inl d)) (SQr 2 16 n k m)) → (¬ a < 0 → ∀ c, z_r k0 Kx (z_lo (z_LUf p (nI n) how st') f2 (nI i + 1, z_sM (z_sI mi 1 c) 3 i a)) (SQr 2 16 n k m)) → z_r k0 Kx (z_LUf p (nI n) how st' (z_lo (z_LUf p (nI n) how st') f2) (nI i, mi)) (SQr 2 16 n k m) := by
          intro a ha Kx h1 h2
          cases hr : z_LUf p (nI n) how st' (z_lo (z_LUf p (nI n) how st') f2) (nI i, mi) with
          | none => exact r_0M
          | some r =>
            rcases lk_step hSi (by omega) (by rw [eloc, ← e4]; exact ha) (fun x => hin (hle.mp x)) _ r hr with ⟨g1, d, g2, g3⟩ | ⟨g1, -, c, g3⟩
            · rw [g2]; rw [← e4] at g3; exact h1 g1 d g3
            · rw [← g3]; exact h2 g1 c
        have k69 : z_r k0 (k_Sp_find_7_69 (z_lo (fun ih16 (a : Int64 × Int32 × Int32 × Int32 × z_Sg) => kb_Sp_find_7_16 ih16 a.1 a.2.1 a.2.2.1 a.2.2.2.1 a.2.2.2.2) f1) p how st (nI i) n4 ki) (z_LUf p (nI n) how st' (z_lo (z_LUf p (nI n) how st') f2) (nI i, mi)) (SQr 2 16 n k m) := by
          unfold k_Sp_find_7_69
          rw [eloc]
          cases ha : f_Pa_locate n4 how k with
          | none => exact r_0K
          | some a =>
            rw [po_bs2]
            refine r_gK (fun _ => r_nK (fun q8 e8 => r_gK (fun _ => ?_)))
            have ea : z_gM q8 2 (nI i).toNatClampNeg = a := by rw [e8]; exact if_pos rfl
            rw [z_clp (show i < 2 ^ 30 by omega)] at e8
            rw [ea]
            refine mst a ha _ (fun h0 d hd => ?_) (fun h0 c => ?_)
            · refine r_fK (fun x => absurd h0 (Int64.not_lt.mpr x)) (r_gK (fun _ => ?_))
              have fk8 : fr [] [16] [2] [] k q8 := by rw [e8]; exact fr_sM fk (by decide)
              have fin : ∀ w : Int32, ¬ w = -1 → z_r k0 (k_Sp_find_7_124 n4 a w q8) (some (.inl d)) (SQr 2 16 n k m) := by
                intro w hw
                unfold k_Sp_find_7_124
                exact ref_no hSi hS hk fk8 (by decide) (by decide) (by decide) hd hw (fr_L fm 5 (by decide)) (fr_I fm 0 (by decide))
              exact r_iK (fun _ => fin 13 (by decide)) (fun _ => fin 12 (by decide))
            · refine r_tK (Int64.not_lt.mp h0) ?_
              rw [e8]
              exact next a ha h0 c
        refine r_iK (fun _ => k69) (fun hc0 => r_iK (fun _ => k69) (fun h4 => ?_))
        have hi0 : 0 < i := by
          rcases Nat.eq_zero_or_pos i with h | h
          · exact absurd (by rw [h]; decide) hc0
          · exact h
        refine r_gK (fun _ => r_gK (fun _ => r_nK (fun q18 e18 => ?_)))
        obtain ⟨p1, p2⟩ := hp hi0
        have en : n4 = (p + (nI (i - 1)).toInt64) + 1 := by
          rw [e4, nI_l (by omega), nI_l (by omega), Int64.add_assoc, show (1 : Int64) = lN 1 from rfl, lN_add]
          congr 2
          omega
        have hx := loc_next p1 p2 (by rw [← en]; exact h4)
        rw [← en] at hx
        have em1 : (nI i - (1 : Int32)) = nI (i - 1) := by
          have : ∀ i, i ≤ 8 → 0 < i → (nI i - (1 : Int32)) = nI (i - 1) := by decide +kernel
          exact this i (by omega) hi0
        rw [em1, z_clp (show i - 1 < 2 ^ 30 by omega), z_clp (show i < 2 ^ 30 by omega)] at e18
        rw [e18]
        exact mst _ hx.1 _ (fun h0 => absurd h0 hx.2) (fun h0 c => next _ hx.1 hx.2 c)
theorem find_rel_7 {k0 k m : z_Sg} (hk : KF k0 k (z_gL k 5) (z_gI k 1)) (hS : Sim k m) {p : Int64} {how st st' : Int32} {n : Nat} (hn : n ≤ 8) : z_r k0 (f_Sp_find_7 p (nI n) how st k) (e_f_Mo_lookUp p (nI n) how st' m) (SQr 2 16 n k m) := by
  unfold f_Sp_find_7 k_Sp_find_7_16
  rw [lk_def, min_8 hn, po_bs2]
  refine r_nK (fun q2 e2 => ?_)
  exact find_loop_7 hk hS hn 2000 2000 0 q2 m (by omega) (by rw [e2]; exact fr_sI fr_0 (by decide)) fr_0 (by rw [e2]; rfl) (fun j hj => absurd hj (by omega)) (fun h => absurd h (by omega))
theorem find_loop_12 {k0 k m : z_Sg} (hk : KF k0 k (z_gL k 5) (z_gI k 1)) (hS : Sim k m) {p : Int64} {how st st' : Int32} {n : Nat} (hn : n ≤ 8) : ∀ (f1 f2 i : Nat) (ki mi : z_Sg), i ≤ n → fr [] [17] [3] [] k ki → fr [] [1] [3] [] m mi → z_gI ki 17 = nI n → (∀ j, j < i → z_gM ki 3 j = z_gM mi 3 j ∧ ¬ z_gM mi 3 j < 0) → (0 < i → f_Pa_locate (p + (nI (i - 1)).toInt64) how k = some (z_gM ki 3 (i - 1)) ∧ ¬ z_gM ki 3 (i - 1) < 0) → z_r k0 (z_lo (fun ih16 (a : Int64 × Int32 × Int32 × Int32 × z_Sg) => kb_Sp_find_12_16 ih16 a.1 a.2.1 a.2.2.1 a.2.2.2.1 a.2.2.2.2) f1 (p, how, st, nI i, ki)) (z_lo (z_LUf p (nI n) how st') f2 (nI i, mi)) (SQr 3 17 n k m) := by
  intro f1
  induction f1 with
  | zero => intro f2 i ki mi _ _ _ _ _ _; exact r_0K
  | succ f1 ih =>
    intro f2 i ki mi hi fk fm hl hv hp
    cases f2 with
    | zero => exact r_0M
    | succ f2 =>
      show z_r k0 (kb_Sp_find_12_16 (z_lo (fun ih16 (a : Int64 × Int32 × Int32 × Int32 × z_Sg) => kb_Sp_find_12_16 ih16 a.1 a.2.1 a.2.2.1 a.2.2.2.1 a.2.2.2.2) f1) p how st (nI i) ki) (z_LUf p (nI n) how st' (z_lo (z_LUf p (nI n) how st') f2) (nI i, mi)) _
      unfold kb_Sp_find_12_16
      have hle : nI n ≤ nI i ↔ n ≤ i := nI_leI (by omega) (by omega)
      have hSi : Sim ki mi := Sim_fr hS fk fm (by decide) (by decide) (by decide) (by decide) (by decide) (by decide) (by decide)
      rw [hl]
      by_cases hin : n ≤ i
      · have : i = n := by omega
        subst this
        rw [if_pos (hle.mpr hin)]
        show z_r k0 _ (if nI i ≤ nI i then some (.inr mi) else _) _
        rw [if_pos (hle.mpr hin)]
        exact r_s ⟨fk, fm, hl, fun j hj => hv j hj⟩
      · rw [if_neg (fun x => hin (hle.mp x))]
        refine r_nK (fun n4 e4 => ?_)
        have eloc : ∀ x, f_Pa_locate x how ki = f_Pa_locate x how k := fun x => by
          rw [loc_mk, loc_mk k, fr_M fk 1 (by decide), fr_L fk 1 (by decide), fr_I fk 2 (by decide)]
        have next : ∀ (a : Int64), f_Pa_locate n4 how k = some a → ¬ a < 0 → ∀ (c : Int32), z_r k0 (k_Sp_find_12_128 (z_lo (fun ih16 (a : Int64 × Int32 × Int32 × Int32 × z_Sg) => kb_Sp_find_12_16 ih16 a.1 a.2.1 a.2.2.1 a.2.2.2.1 a.2.2.2.2) f1) p how st (nI i) (z_sM ki 3 i a)) (z_lo (z_LUf p (nI n) how st') f2 (nI i + 1, z_sM (z_sI mi 1 c) 3 i a)) (SQr 3 17 n k m) := by
          intro a ha h0 c
          unfold k_Sp_find_12_128
          refine r_nK (fun n11 e11 => ?_)
          rw [e11, nI_S]
          have u1 : ∀ j, z_gM (z_sM ki 3 i a) 3 j = if j = i then a else z_gM ki 3 j := fun j => rfl
          have u2 : ∀ j, z_gM (z_sM (z_sI mi 1 c) 3 i a) 3 j = if j = i then a else z_gM mi 3 j := fun j => rfl
          refine ih f2 (i + 1) _ _ (by omega) (fr_sM fk (by decide)) (fr_sM (fr_sI fm (by decide)) (by decide)) hl (fun j hj => ?_) (fun _ => ?_)
          · rw [u1, u2]
            by_cases hji : j = i
            · rw [if_pos hji, if_pos hji]; exact ⟨rfl, h0⟩
            · rw [if_neg hji, if_neg hji]; exact hv j (by omega)
          · rw [show i + 1 - 1 = i from rfl, u1, if_pos rfl, ← e4]
            exact ⟨ha, h0⟩
        have mst : ∀ (a : Int64), f_Pa_locate n4 how k = some a → ∀ (Kx : Option (Int32 × z_Sg)), (a < 0 → ∀ d, noD mi n4 a d → z_r k0 Kx (some (.inl d)) (SQr 3 17 n k m)) → (¬ a < 0 → ∀ c, z_r k0 Kx (z_lo (z_LUf p (nI n) how st') f2 (nI i + 1, z_sM (z_sI mi 1 c) 3 i a)) (SQr 3 17 n k m)) → z_r k0 Kx (z_LUf p (nI n) how st' (z_lo (z_LUf p (nI n) how st') f2) (nI i, mi)) (SQr 3 17 n k m) := by
          intro a ha Kx h1 h2
          cases hr : z_LUf p (nI n) how st' (z_lo (z_LUf p (nI n) how st') f2) (nI i, mi) with
          | none => exact r_0M
          | some r =>
            rcases lk_step hSi (by omega) (by rw [eloc, ← e4]; exact ha) (fun x => hin (hle.mp x)) _ r hr with ⟨g1, d, g2, g3⟩ | ⟨g1, -, c, g3⟩
            · rw [g2]; rw [← e4] at g3; exact h1 g1 d g3
            · rw [← g3]; exact h2 g1 c
        have k69 : z_r k0 (k_Sp_find_12_69 (z_lo (fun ih16 (a : Int64 × Int32 × Int32 × Int32 × z_Sg) => kb_Sp_find_12_16 ih16 a.1 a.2.1 a.2.2.1 a.2.2.2.1 a.2.2.2.2) f1) p how st (nI i) n4 ki) (z_LUf p (nI n) how st' (z_lo (z_LUf p (nI n) how st') f2) (nI i, mi)) (SQr 3 17 n k m) := by
          unfold k_Sp_find_12_69
          rw [eloc]
          cases ha : f_Pa_locate n4 how k with
          | none => exact r_0K
          | some a =>
            rw [po_bs2]
            refine r_gK (fun _ => r_nK (fun q8 e8 => r_gK (fun _ => ?_)))
            have ea : z_gM q8 3 (nI i).toNatClampNeg = a := by rw [e8]; exact if_pos rfl
            rw [z_clp (show i < 2 ^ 30 by omega)] at e8
            rw [ea]
            refine mst a ha _ (fun h0 d hd => ?_) (fun h0 c => ?_)
            · refine r_fK (fun x => absurd h0 (Int64.not_lt.mpr x)) (r_gK (fun _ => ?_))
              have fk8 : fr [] [17] [3] [] k q8 := by rw [e8]; exact fr_sM fk (by decide)
              have fin : ∀ w : Int32, ¬ w = -1 → z_r k0 (k_Sp_find_12_124 n4 a w q8) (some (.inl d)) (SQr 3 17 n k m) := by
                intro w hw
                unfold k_Sp_find_12_124
                exact ref_no hSi hS hk fk8 (by decide) (by decide) (by decide) hd hw (fr_L fm 5 (by decide)) (fr_I fm 0 (by decide))
              exact r_iK (fun _ => fin 13 (by decide)) (fun _ => fin 12 (by decide))
            · refine r_tK (Int64.not_lt.mp h0) ?_
              rw [e8]
              exact next a ha h0 c
        refine r_iK (fun _ => k69) (fun hc0 => r_iK (fun _ => k69) (fun h4 => ?_))
        have hi0 : 0 < i := by
          rcases Nat.eq_zero_or_pos i with h | h
          · exact absurd (by rw [h]; decide) hc0
          · exact h
        refine r_gK (fun _ => r_gK (fun _ => r_nK (fun q18 e18 => ?_)))
        obtain ⟨p1, p2⟩ := hp hi0
        have en : n4 = (p + (nI (i - 1)).toInt64) + 1 := by
          rw [e4, nI_l (by omega), nI_l (by omega), Int64.add_assoc, show (1 : Int64) = lN 1 from rfl, lN_add]
          congr 2
          omega
        have hx := loc_next p1 p2 (by rw [← en]; exact h4)
        rw [← en] at hx
        have em1 : (nI i - (1 : Int32)) = nI (i - 1) := by
          have : ∀ i, i ≤ 8 → 0 < i → (nI i - (1 : Int32)) = nI (i - 1) := by decide +kernel
          exact this i (by omega) hi0
        rw [em1, z_clp (show i - 1 < 2 ^ 30 by omega), z_clp (show i < 2 ^ 30 by omega)] at e18
        rw [e18]
        exact mst _ hx.1 _ (fun h0 => absurd h0 hx.2) (fun h0 c => next _ hx.1 hx.2 c)
theorem find_rel_12 {k0 k m : z_Sg} (hk : KF k0 k (z_gL k 5) (z_gI k 1)) (hS : Sim k m) {p : Int64} {how st st' : Int32} {n : Nat} (hn : n ≤ 8) : z_r k0 (f_Sp_find_12 p (nI n) how st k) (e_f_Mo_lookUp p (nI n) how st' m) (SQr 3 17 n k m) := by
  unfold f_Sp_find_12 k_Sp_find_12_16
  rw [lk_def, min_8 hn, po_bs2]
  refine r_nK (fun q2 e2 => ?_)
  exact find_loop_12 hk hS hn 2000 2000 0 q2 m (by omega) (by rw [e2]; exact fr_sI fr_0 (by decide)) fr_0 (by rw [e2]; rfl) (fun j hj => absurd hj (by omega)) (fun h => absurd h (by omega))
theorem find_loop_15 {k0 k m : z_Sg} (hk : KF k0 k (z_gL k 5) (z_gI k 1)) (hS : Sim k m) {p : Int64} {how st st' : Int32} {n : Nat} (hn : n ≤ 8) : ∀ (f1 f2 i : Nat) (ki mi : z_Sg), i ≤ n → fr [] [18] [4] [] k ki → fr [] [1] [3] [] m mi → z_gI ki 18 = nI n → (∀ j, j < i → z_gM ki 4 j = z_gM mi 3 j ∧ ¬ z_gM mi 3 j < 0) → (0 < i → f_Pa_locate (p + (nI (i - 1)).toInt64) how k = some (z_gM ki 4 (i - 1)) ∧ ¬ z_gM ki 4 (i - 1) < 0) → z_r k0 (z_lo (fun ih16 (a : Int64 × Int32 × Int32 × Int32 × z_Sg) => kb_Sp_find_15_16 ih16 a.1 a.2.1 a.2.2.1 a.2.2.2.1 a.2.2.2.2) f1 (p, how, st, nI i, ki)) (z_lo (z_LUf p (nI n) how st') f2 (nI i, mi)) (SQr 4 18 n k m) := by
  intro f1
  induction f1 with
  | zero => intro f2 i ki mi _ _ _ _ _ _; exact r_0K
  | succ f1 ih =>
    intro f2 i ki mi hi fk fm hl hv hp
    cases f2 with
    | zero => exact r_0M
    | succ f2 =>
      show z_r k0 (kb_Sp_find_15_16 (z_lo (fun ih16 (a : Int64 × Int32 × Int32 × Int32 × z_Sg) => kb_Sp_find_15_16 ih16 a.1 a.2.1 a.2.2.1 a.2.2.2.1 a.2.2.2.2) f1) p how st (nI i) ki) (z_LUf p (nI n) how st' (z_lo (z_LUf p (nI n) how st') f2) (nI i, mi)) _
      unfold kb_Sp_find_15_16
      have hle : nI n ≤ nI i ↔ n ≤ i := nI_leI (by omega) (by omega)
      have hSi : Sim ki mi := Sim_fr hS fk fm (by decide) (by decide) (by decide) (by decide) (by decide) (by decide) (by decide)
      rw [hl]
      by_cases hin : n ≤ i
      · have : i = n := by omega
        subst this
        rw [if_pos (hle.mpr hin)]
        show z_r k0 _ (if nI i ≤ nI i then some (.inr mi) else _) _
        rw [if_pos (hle.mpr hin)]
        exact r_s ⟨fk, fm, hl, fun j hj => hv j hj⟩
      · rw [if_neg (fun x => hin (hle.mp x))]
        refine r_nK (fun n4 e4 => ?_)
        have eloc : ∀ x, f_Pa_locate x how ki = f_Pa_locate x how k := fun x => by
          rw [loc_mk, loc_mk k, fr_M fk 1 (by decide), fr_L fk 1 (by decide), fr_I fk 2 (by decide)]
        have next : ∀ (a : Int64), f_Pa_locate n4 how k = some a → ¬ a < 0 → ∀ (c : Int32), z_r k0 (k_Sp_find_15_128 (z_lo (fun ih16 (a : Int64 × Int32 × Int32 × Int32 × z_Sg) => kb_Sp_find_15_16 ih16 a.1 a.2.1 a.2.2.1 a.2.2.2.1 a.2.2.2.2) f1) p how st (nI i) (z_sM ki 4 i a)) (z_lo (z_LUf p (nI n) how st') f2 (nI i + 1, z_sM (z_sI mi 1 c) 3 i a)) (SQr 4 18 n k m) := by
          intro a ha h0 c
          unfold k_Sp_find_15_128
          refine r_nK (fun n11 e11 => ?_)
          rw [e11, nI_S]
          have u1 : ∀ j, z_gM (z_sM ki 4 i a) 4 j = if j = i then a else z_gM ki 4 j := fun j => rfl
          have u2 : ∀ j, z_gM (z_sM (z_sI mi 1 c) 3 i a) 3 j = if j = i then a else z_gM mi 3 j := fun j => rfl
          refine ih f2 (i + 1) _ _ (by omega) (fr_sM fk (by decide)) (fr_sM (fr_sI fm (by decide)) (by decide)) hl (fun j hj => ?_) (fun _ => ?_)
          · rw [u1, u2]
            by_cases hji : j = i
            · rw [if_pos hji, if_pos hji]; exact ⟨rfl, h0⟩
            · rw [if_neg hji, if_neg hji]; exact hv j (by omega)
          · rw [show i + 1 - 1 = i from rfl, u1, if_pos rfl, ← e4]
            exact ⟨ha, h0⟩
        have mst : ∀ (a : Int64), f_Pa_locate n4 how k = some a → ∀ (Kx : Option (Int32 × z_Sg)), (a < 0 → ∀ d, noD mi n4 a d → z_r k0 Kx (some (.inl d)) (SQr 4 18 n k m)) → (¬ a < 0 → ∀ c, z_r k0 Kx (z_lo (z_LUf p (nI n) how st') f2 (nI i + 1, z_sM (z_sI mi 1 c) 3 i a)) (SQr 4 18 n k m)) → z_r k0 Kx (z_LUf p (nI n) how st' (z_lo (z_LUf p (nI n) how st') f2) (nI i, mi)) (SQr 4 18 n k m) := by
          intro a ha Kx h1 h2
          cases hr : z_LUf p (nI n) how st' (z_lo (z_LUf p (nI n) how st') f2) (nI i, mi) with
          | none => exact r_0M
          | some r =>
            rcases lk_step hSi (by omega) (by rw [eloc, ← e4]; exact ha) (fun x => hin (hle.mp x)) _ r hr with ⟨g1, d, g2, g3⟩ | ⟨g1, -, c, g3⟩
            · rw [g2]; rw [← e4] at g3; exact h1 g1 d g3
            · rw [← g3]; exact h2 g1 c
        have k69 : z_r k0 (k_Sp_find_15_69 (z_lo (fun ih16 (a : Int64 × Int32 × Int32 × Int32 × z_Sg) => kb_Sp_find_15_16 ih16 a.1 a.2.1 a.2.2.1 a.2.2.2.1 a.2.2.2.2) f1) p how st (nI i) n4 ki) (z_LUf p (nI n) how st' (z_lo (z_LUf p (nI n) how st') f2) (nI i, mi)) (SQr 4 18 n k m) := by
          unfold k_Sp_find_15_69
          rw [eloc]
          cases ha : f_Pa_locate n4 how k with
          | none => exact r_0K
          | some a =>
            rw [po_bs2]
            refine r_gK (fun _ => r_nK (fun q8 e8 => r_gK (fun _ => ?_)))
            have ea : z_gM q8 4 (nI i).toNatClampNeg = a := by rw [e8]; exact if_pos rfl
            rw [z_clp (show i < 2 ^ 30 by omega)] at e8
            rw [ea]
            refine mst a ha _ (fun h0 d hd => ?_) (fun h0 c => ?_)
            · refine r_fK (fun x => absurd h0 (Int64.not_lt.mpr x)) (r_gK (fun _ => ?_))
              have fk8 : fr [] [18] [4] [] k q8 := by rw [e8]; exact fr_sM fk (by decide)
              have fin : ∀ w : Int32, ¬ w = -1 → z_r k0 (k_Sp_find_15_124 n4 a w q8) (some (.inl d)) (SQr 4 18 n k m) := by
                intro w hw
                unfold k_Sp_find_15_124
                exact ref_no hSi hS hk fk8 (by decide) (by decide) (by decide) hd hw (fr_L fm 5 (by decide)) (fr_I fm 0 (by decide))
              exact r_iK (fun _ => fin 13 (by decide)) (fun _ => fin 12 (by decide))
            · refine r_tK (Int64.not_lt.mp h0) ?_
              rw [e8]
              exact next a ha h0 c
        refine r_iK (fun _ => k69) (fun hc0 => r_iK (fun _ => k69) (fun h4 => ?_))
        have hi0 : 0 < i := by
          rcases Nat.eq_zero_or_pos i with h | h
          · exact absurd (by rw [h]; decide) hc0
          · exact h
        refine r_gK (fun _ => r_gK (fun _ => r_nK (fun q18 e18 => ?_)))
        obtain ⟨p1, p2⟩ := hp hi0
        have en : n4 = (p + (nI (i - 1)).toInt64) + 1 := by
          rw [e4, nI_l (by omega), nI_l (by omega), Int64.add_assoc, show (1 : Int64) = lN 1 from rfl, lN_add]
          congr 2
          omega
        have hx := loc_next p1 p2 (by rw [← en]; exact h4)
        rw [← en] at hx
        have em1 : (nI i - (1 : Int32)) = nI (i - 1) := by
          have : ∀ i, i ≤ 8 → 0 < i → (nI i - (1 : Int32)) = nI (i - 1) := by decide +kernel
          exact this i (by omega) hi0
        rw [em1, z_clp (show i - 1 < 2 ^ 30 by omega), z_clp (show i < 2 ^ 30 by omega)] at e18
        rw [e18]
        exact mst _ hx.1 _ (fun h0 => absurd h0 hx.2) (fun h0 c => next _ hx.1 hx.2 c)
theorem find_rel_15 {k0 k m : z_Sg} (hk : KF k0 k (z_gL k 5) (z_gI k 1)) (hS : Sim k m) {p : Int64} {how st st' : Int32} {n : Nat} (hn : n ≤ 8) : z_r k0 (f_Sp_find_15 p (nI n) how st k) (e_f_Mo_lookUp p (nI n) how st' m) (SQr 4 18 n k m) := by
  unfold f_Sp_find_15 k_Sp_find_15_16
  rw [lk_def, min_8 hn, po_bs2]
  refine r_nK (fun q2 e2 => ?_)
  exact find_loop_15 hk hS hn 2000 2000 0 q2 m (by omega) (by rw [e2]; exact fr_sI fr_0 (by decide)) fr_0 (by rw [e2]; rfl) (fun j hj => absurd hj (by omega)) (fun h => absurd h (by omega))
theorem find_loop_17 {k0 k m : z_Sg} (hk : KF k0 k (z_gL k 5) (z_gI k 1)) (hS : Sim k m) {p : Int64} {how st st' : Int32} {n : Nat} (hn : n ≤ 8) : ∀ (f1 f2 i : Nat) (ki mi : z_Sg), i ≤ n → fr [] [19] [5] [] k ki → fr [] [1] [3] [] m mi → z_gI ki 19 = nI n → (∀ j, j < i → z_gM ki 5 j = z_gM mi 3 j ∧ ¬ z_gM mi 3 j < 0) → (0 < i → f_Pa_locate (p + (nI (i - 1)).toInt64) how k = some (z_gM ki 5 (i - 1)) ∧ ¬ z_gM ki 5 (i - 1) < 0) → z_r k0 (z_lo (fun ih16 (a : Int64 × Int32 × Int32 × Int32 × z_Sg) => kb_Sp_find_17_16 ih16 a.1 a.2.1 a.2.2.1 a.2.2.2.1 a.2.2.2.2) f1 (p, how, st, nI i, ki)) (z_lo (z_LUf p (nI n) how st') f2 (nI i, mi)) (SQr 5 19 n k m) := by
  intro f1
  induction f1 with
  | zero => intro f2 i ki mi _ _ _ _ _ _; exact r_0K
  | succ f1 ih =>
    intro f2 i ki mi hi fk fm hl hv hp
    cases f2 with
    | zero => exact r_0M
    | succ f2 =>
      show z_r k0 (kb_Sp_find_17_16 (z_lo (fun ih16 (a : Int64 × Int32 × Int32 × Int32 × z_Sg) => kb_Sp_find_17_16 ih16 a.1 a.2.1 a.2.2.1 a.2.2.2.1 a.2.2.2.2) f1) p how st (nI i) ki) (z_LUf p (nI n) how st' (z_lo (z_LUf p (nI n) how st') f2) (nI i, mi)) _
      unfold kb_Sp_find_17_16
      have hle : nI n ≤ nI i ↔ n ≤ i := nI_leI (by omega) (by omega)
      have hSi : Sim ki mi := Sim_fr hS fk fm (by decide) (by decide) (by decide) (by decide) (by decide) (by decide) (by decide)
      rw [hl]
      by_cases hin : n ≤ i
      · have : i = n := by omega
        subst this
        rw [if_pos (hle.mpr hin)]
        show z_r k0 _ (if nI i ≤ nI i then some (.inr mi) else _) _
        rw [if_pos (hle.mpr hin)]
        exact r_s ⟨fk, fm, hl, fun j hj => hv j hj⟩
      · rw [if_neg (fun x => hin (hle.mp x))]
        refine r_nK (fun n4 e4 => ?_)
        have eloc : ∀ x, f_Pa_locate x how ki = f_Pa_locate x how k := fun x => by
          rw [loc_mk, loc_mk k, fr_M fk 1 (by decide), fr_L fk 1 (by decide), fr_I fk 2 (by decide)]
        have next : ∀ (a : Int64), f_Pa_locate n4 how k = some a → ¬ a < 0 → ∀ (c : Int32), z_r k0 (k_Sp_find_17_128 (z_lo (fun ih16 (a : Int64 × Int32 × Int32 × Int32 × z_Sg) => kb_Sp_find_17_16 ih16 a.1 a.2.1 a.2.2.1 a.2.2.2.1 a.2.2.2.2) f1) p how st (nI i) (z_sM ki 5 i a)) (z_lo (z_LUf p (nI n) how st') f2 (nI i + 1, z_sM (z_sI mi 1 c) 3 i a)) (SQr 5 19 n k m) := by
          intro a ha h0 c
          unfold k_Sp_find_17_128
          refine r_nK (fun n11 e11 => ?_)
          rw [e11, nI_S]
          have u1 : ∀ j, z_gM (z_sM ki 5 i a) 5 j = if j = i then a else z_gM ki 5 j := fun j => rfl
          have u2 : ∀ j, z_gM (z_sM (z_sI mi 1 c) 3 i a) 3 j = if j = i then a else z_gM mi 3 j := fun j => rfl
          refine ih f2 (i + 1) _ _ (by omega) (fr_sM fk (by decide)) (fr_sM (fr_sI fm (by decide)) (by decide)) hl (fun j hj => ?_) (fun _ => ?_)
          · rw [u1, u2]
            by_cases hji : j = i
            · rw [if_pos hji, if_pos hji]; exact ⟨rfl, h0⟩
            · rw [if_neg hji, if_neg hji]; exact hv j (by omega)
          · rw [show i + 1 - 1 = i from rfl, u1, if_pos rfl, ← e4]
            exact ⟨ha, h0⟩
        have mst : ∀ (a : Int64), f_Pa_locate n4 how k = some a → ∀ (Kx : Option (Int32 × z_Sg)), (a < 0 → ∀ d, noD mi n4 a d → z_r k0 Kx (some (.inl d)) (SQr 5 19 n k m)) → (¬ a < 0 → ∀ c, z_r k0 Kx (z_lo (z_LUf p (nI n) how st') f2 (nI i + 1, z_sM (z_sI mi 1 c) 3 i a)) (SQr 5 19 n k m)) → z_r k0 Kx (z_LUf p (nI n) how st' (z_lo (z_LUf p (nI n) how st') f2) (nI i, mi)) (SQr 5 19 n k m) := by
          intro a ha Kx h1 h2
          cases hr : z_LUf p (nI n) how st' (z_lo (z_LUf p (nI n) how st') f2) (nI i, mi) with
          | none => exact r_0M
          | some r =>
            rcases lk_step hSi (by omega) (by rw [eloc, ← e4]; exact ha) (fun x => hin (hle.mp x)) _ r hr with ⟨g1, d, g2, g3⟩ | ⟨g1, -, c, g3⟩
            · rw [g2]; rw [← e4] at g3; exact h1 g1 d g3
            · rw [← g3]; exact h2 g1 c
        have k69 : z_r k0 (k_Sp_find_17_69 (z_lo (fun ih16 (a : Int64 × Int32 × Int32 × Int32 × z_Sg) => kb_Sp_find_17_16 ih16 a.1 a.2.1 a.2.2.1 a.2.2.2.1 a.2.2.2.2) f1) p how st (nI i) n4 ki) (z_LUf p (nI n) how st' (z_lo (z_LUf p (nI n) how st') f2) (nI i, mi)) (SQr 5 19 n k m) := by
          unfold k_Sp_find_17_69
          rw [eloc]
          cases ha : f_Pa_locate n4 how k with
          | none => exact r_0K
          | some a =>
            rw [po_bs2]
            refine r_gK (fun _ => r_nK (fun q8 e8 => r_gK (fun _ => ?_)))
            have ea : z_gM q8 5 (nI i).toNatClampNeg = a := by rw [e8]; exact if_pos rfl
            rw [z_clp (show i < 2 ^ 30 by omega)] at e8
            rw [ea]
            refine mst a ha _ (fun h0 d hd => ?_) (fun h0 c => ?_)
            · refine r_fK (fun x => absurd h0 (Int64.not_lt.mpr x)) (r_gK (fun _ => ?_))
              have fk8 : fr [] [19] [5] [] k q8 := by rw [e8]; exact fr_sM fk (by decide)
              have fin : ∀ w : Int32, ¬ w = -1 → z_r k0 (k_Sp_find_17_124 n4 a w q8) (some (.inl d)) (SQr 5 19 n k m) := by
                intro w hw
                unfold k_Sp_find_17_124
                exact ref_no hSi hS hk fk8 (by decide) (by decide) (by decide) hd hw (fr_L fm 5 (by decide)) (fr_I fm 0 (by decide))
              exact r_iK (fun _ => fin 13 (by decide)) (fun _ => fin 12 (by decide))
            · refine r_tK (Int64.not_lt.mp h0) ?_
              rw [e8]
              exact next a ha h0 c
        refine r_iK (fun _ => k69) (fun hc0 => r_iK (fun _ => k69) (fun h4 => ?_))
        have hi0 : 0 < i := by
          rcases Nat.eq_zero_or_pos i with h | h
          · exact absurd (by rw [h]; decide) hc0
          · exact h
        refine r_gK (fun _ => r_gK (fun _ => r_nK (fun q18 e18 => ?_)))
        obtain ⟨p1, p2⟩ := hp hi0
        have en : n4 = (p + (nI (i - 1)).toInt64) + 1 := by
          rw [e4, nI_l (by omega), nI_l (by omega), Int64.add_assoc, show (1 : Int64) = lN 1 from rfl, lN_add]
          congr 2
          omega
        have hx := loc_next p1 p2 (by rw [← en]; exact h4)
        rw [← en] at hx
        have em1 : (nI i - (1 : Int32)) = nI (i - 1) := by
          have : ∀ i, i ≤ 8 → 0 < i → (nI i - (1 : Int32)) = nI (i - 1) := by decide +kernel
          exact this i (by omega) hi0
        rw [em1, z_clp (show i - 1 < 2 ^ 30 by omega), z_clp (show i < 2 ^ 30 by omega)] at e18
        rw [e18]
        exact mst _ hx.1 _ (fun h0 => absurd h0 hx.2) (fun h0 c => next _ hx.1 hx.2 c)
theorem find_rel_17 {k0 k m : z_Sg} (hk : KF k0 k (z_gL k 5) (z_gI k 1)) (hS : Sim k m) {p : Int64} {how st st' : Int32} {n : Nat} (hn : n ≤ 8) : z_r k0 (f_Sp_find_17 p (nI n) how st k) (e_f_Mo_lookUp p (nI n) how st' m) (SQr 5 19 n k m) := by
  unfold f_Sp_find_17 k_Sp_find_17_16
  rw [lk_def, min_8 hn, po_bs2]
  refine r_nK (fun q2 e2 => ?_)
  exact find_loop_17 hk hS hn 2000 2000 0 q2 m (by omega) (by rw [e2]; exact fr_sI fr_0 (by decide)) fr_0 (by rw [e2]; rfl) (fun j hj => absurd hj (by omega)) (fun h => absurd h (by omega))
