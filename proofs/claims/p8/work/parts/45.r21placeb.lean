def PLb (k m : z_Sg) : Prop := ((z_gI k 7 = -2 ∧ z_gI m 17 = 1 ∧ z_gI m 13 = -1) ∨ (z_gI k 7 = -1 ∧ z_gI m 17 = 0 ∧ z_gI m 13 = -1) ∨ (∃ j, j < 16 ∧ z_gI k 7 = nI j ∧ z_gI m 13 = nI j ∧ z_gI m 17 = 0)) ∧ ((z_gI k 8 = -1 ∧ z_gI m 14 = -1) ∨ (∃ j s, j < 16 ∧ j ≠ 4 ∧ s < 4 ∧ z_gI k 8 = nI j ∧ z_gI m 14 = nI j ∧ z_gI k 9 = nI s ∧ z_gI m 12 = nI s))
def PLr (k m : z_Sg) : Prop := PLb k m ∧ z_gL k 8 = z_gL m 6
def PQr (k m k' m' : z_Sg) : Prop := DR k' m' ∧ fr [6, 7, 8] [3, 4, 7, 8, 9] [] [] k k' ∧ fr [6] [1, 6, 12, 13, 14, 17] [3] [] m m' ∧ PLr k' m'
theorem ext_eq {k m : z_Sg} (h : z_gI k 6 = z_gI m 10) (x : Int32) : ∃ e : Nat, (e = 0 ∨ e = 8) ∧ f_De_extension x k = some (nI e) ∧ f_Mo_plus x m = some (nI e) := by
  unfold f_De_extension k_De_extension_15 f_Mo_plus k_Mo_plus_15
  rw [h]
  by_cases hx : (z_gI m 10 &&& x) = 0
  · exact ⟨0, Or.inl rfl, by rw [if_pos hx]; rfl, by rw [if_pos hx]; rfl⟩
  · exact ⟨8, Or.inr rfl, by rw [if_neg hx]; rfl, by rw [if_neg hx]; rfl⟩
theorem PLb_fr {k m k' m' : z_Sg} (h : PLb k m) (h1 : z_gI k' 7 = z_gI k 7) (h2 : z_gI k' 8 = z_gI k 8) (h3 : z_gI k' 9 = z_gI k 9) (h4 : z_gI m' 12 = z_gI m 12) (h5 : z_gI m' 13 = z_gI m 13) (h6 : z_gI m' 14 = z_gI m 14) (h7 : z_gI m' 17 = z_gI m 17) : PLb k' m' := by
  unfold PLb at h ⊢
  rw [h1, h2, h3, h4, h5, h6, h7]
  exact h
theorem place_num {k0 k m kb mb : z_Sg} {n : Nat} (hn : n = 0 ∨ n = 1 ∨ n = 4) (hk : ∃ f c, KF k0 k f c) (h : DR k m) (fk : fr [6, 7, 8] [3, 4, 7, 8, 9] [] [] kb k) (fm : fr [6] [1, 6, 12, 13, 14, 17] [3] [] mb m) (hp : PLb k m) (h0 : z_gL m 6 = 0) : z_r k0 (k_De_fetchPlace_174 (nI n) k) (e_k_Mo_takePlace_201 (nI n) m) (PQr kb mb) := by
  unfold k_De_fetchPlace_174 e_k_Mo_takePlace_201
  by_cases hn0 : n = 0
  · subst hn0
    rw [if_pos (by decide), show nI 0 = (0 : Int32) from rfl, num_0, po_bs2]
    refine r_nK (fun q10 e10 => ?_)
    unfold k_Mo_takePlace_214
    rw [po_bs2]
    refine r_s ⟨?_, ?_, fm, ?_, ?_⟩
    · rw [e10]; exact DR_sL (DR_sL h 7 _ (by omega)) 8 _ (by omega)
    · rw [e10]; exact fr_sL (fr_sL fk (by decide)) (by decide)
    · rw [e10]; exact hp
    · rw [e10, h0]; rfl
  · have h1 : 1 ≤ n := by omega
    have h8 : n ≤ 8 := by omega
    rw [if_neg (by rcases hn with rfl | rfl | rfl; exact absurd rfl hn0; decide; decide)]
    refine r_b (num_rel h1 h8 hk h) (fun o f c g1 g2 => po_n (fun q10 e10 => po_s ⟨g1, by rw [e10]; exact g2⟩)) (fun k' b hb => ?_)
    obtain ⟨g1, g2, g3, g4⟩ := hb
    refine r_nK (fun q10 e10 => r_nM (fun q20 e20 => ?_))
    unfold k_Mo_takePlace_214
    rw [po_bs2]
    refine r_s ⟨?_, ?_, ?_, ?_, ?_⟩
    · rw [e10, e20]
      exact DR_fr g1 (Lk := [8]) (Ik := []) (Mk := []) (Nk := []) (Lm := [6]) (Im := []) (Mm := []) (Nm := []) (fr_sL fr_0 (by decide)) (fr_sL fr_0 (by decide)) (by decide) (by decide) (by decide) (by decide) (by decide) (by decide) (by decide)
    · rw [e10]; exact fr_sL (fr_t fk (fr_w g2 (by decide) (by decide) (by decide) (by decide))) (by decide)
    · rw [e20]; exact fr_sL (fr_t fm (fr_w g3 (by decide) (by decide) (by decide) (by decide))) (by decide)
    · rw [e10, e20]
      exact PLb_fr hp (fr_I g2 7 (by decide)) (fr_I g2 8 (by decide)) (fr_I g2 9 (by decide)) (fr_I g3 12 (by decide)) (fr_I g3 13 (by decide)) (fr_I g3 14 (by decide)) (fr_I g3 17 (by decide))
    · rw [e10, e20]
      show z_gL k' 7 = b.1
      exact g4
theorem r_ors : ∀ r, r < 8 → (nI r ||| nI 0 = nI r ∧ nI r + nI 0 = nI r ∧ nI r ||| nI 8 = nI (r + 8) ∧ nI r + nI 8 = nI (r + 8) ∧ ((nI r &&& (7 : Int32)) = 5 ↔ r = 5) ∧ ((nI (r + 8) &&& (7 : Int32)) = 5 ↔ r = 5) ∧ (nI r = 4 ↔ r = 4) ∧ (nI r = 5 ↔ r = 5) ∧ ¬ nI (r + 8) = 4) := by decide +kernel
theorem md_ok : ∀ d, d < 4 → ((nI d = 0 ↔ d = 0) ∧ (nI d = 1 ↔ d = 1) ∧ (nI d = 2 ↔ d = 2) ∧ (nI d = 3 ↔ d = 3)) := by decide +kernel
theorem place_rel {k0 k m : z_Sg} (hk : ∃ f c, KF k0 k f c) (h : DR k m) (hm : MR k m) (h3 : ¬ z_gI k 12 = 3) : z_r k0 (f_De_fetchPlace k) (e_f_Mo_takePlace m) (PQr k m) := by
  obtain ⟨n, hn, a1, a2, a3, a4, a5, a6⟩ := hm
  obtain ⟨hS, hal, hw, hcnt, g6, g10, g5, gb⟩ := h
  have hmd : n / 64 < 4 := by omega
  obtain ⟨d0, d1, d2, d3⟩ := md_ok _ hmd
  have hr : n % 8 < 8 := by omega
  have hd3 : ¬ n / 64 = 3 := fun x => h3 (by rw [a1]; exact d3.mpr x)
  have hby : ∃ by_ : Nat, (by_ = 0 ∨ by_ = 1 ∨ by_ = 4) ∧ (∀ q : z_Sg, z_gI q 12 = nI (n / 64) → k_De_fetchPlace_111 q = k_De_fetchPlace_135 (nI by_) q) ∧ (∀ q : z_Sg, z_gI q 7 = nI (n / 64) → (if (z_gI q 7) = (3 : Int32) then ((k_Mo_takePlace_36 q).bind (fun o => some (.inr o))) else (if (z_gI q 7) = (1 : Int32) then (e_k_Mo_takePlace_62 (1 : Int32) q) else (if (z_gI q 7) = (2 : Int32) then (e_k_Mo_takePlace_62 (4 : Int32) q) else (e_k_Mo_takePlace_62 (0 : Int32) q)))) = e_k_Mo_takePlace_62 (nI by_) q) := by
    have : n / 64 = 0 ∨ n / 64 = 1 ∨ n / 64 = 2 := by omega
    rcases this with e | e | e
    · refine ⟨0, Or.inl rfl, fun q hq => ?_, fun q hq => ?_⟩
      · unfold k_De_fetchPlace_111; rw [hq, e, if_pos (by decide)]; rfl
      · rw [hq, e, if_neg (by decide), if_neg (by decide), if_neg (by decide)]; rfl
    · refine ⟨1, Or.inr (Or.inl rfl), fun q hq => ?_, fun q hq => ?_⟩
      · unfold k_De_fetchPlace_111; rw [hq, e, if_neg (by decide), if_pos (by decide)]; rfl
      · rw [hq, e, if_neg (by decide), if_pos (by decide)]; rfl
    · refine ⟨4, Or.inr (Or.inr rfl), fun q hq => ?_, fun q hq => ?_⟩
      · unfold k_De_fetchPlace_111; rw [hq, e, if_neg (by decide), if_neg (by decide)]; rfl
      · rw [hq, e, if_neg (by decide), if_neg (by decide), if_pos (by decide)]; rfl
  obtain ⟨by_, hby, hK, hM⟩ := hby
  unfold f_De_fetchPlace e_f_Mo_takePlace
  obtain ⟨e, he, eK, eM⟩ := ext_eq g6 1
  rw [eK, po_bs2]
  refine r_nK (fun q2 e2 => r_nK (fun q3 e3 => r_nK (fun q4 e4 => ?_)))
  refine r_nM (fun p1 f1 => r_nM (fun p2 f2 => r_nM (fun p3 f3 => r_nM (fun p4 f4 => ?_))))
  have m7 : z_gI p4 7 = nI (n / 64) := by rw [f4, f3, f2, f1]; exact a2
  rw [hM p4 m7]
  have c14 : z_gI q4 14 = nI (n % 8) := by rw [e4, e3, e2]; exact a5
  have m9 : z_gI p4 9 = nI (n % 8) := by rw [f4, f3, f2, f1]; exact a6
  have hD : DR q4 p4 := by
    rw [e4, e3, e2, f4, f3, f2, f1]
    exact DR_fr ⟨hS, hal, hw, hcnt, g6, g10, g5, gb⟩ (Lk := []) (Ik := [7, 8, 9]) (Mk := []) (Nk := []) (Lm := [6]) (Im := [13, 14, 17]) (Mm := []) (Nm := []) (fr_sI (fr_sI (fr_sI fr_0 (by decide)) (by decide)) (by decide)) (fr_sL (fr_sI (fr_sI (fr_sI fr_0 (by decide)) (by decide)) (by decide)) (by decide)) (by decide) (by decide) (by decide) (by decide) (by decide) (by decide) (by decide)
  have fk4 : fr [6, 7, 8] [3, 4, 7, 8, 9] [] [] k q4 := by rw [e4, e3, e2]; exact fr_sI (fr_sI (fr_sI fr_0 (by decide)) (by decide)) (by decide)
  have fm4 : fr [6] [1, 6, 12, 13, 14, 17] [3] [] m p4 := by rw [f4, f3, f2, f1]; exact fr_sL (fr_sI (fr_sI (fr_sI fr_0 (by decide)) (by decide)) (by decide)) (by decide)
  have hk4 : ∃ f c, KF k0 q4 f c := by
    obtain ⟨f0, c0, hk0⟩ := hk
    exact ⟨f0, c0, by rw [e4, e3, e2]; exact hk0⟩
  have z6 : z_gL p4 6 = 0 := by rw [f4]; rfl
  have b13 : z_gI p4 13 = -1 := by rw [f4, f3, f2, f1]; rfl
  have b14 : z_gI p4 14 = -1 := by rw [f4, f3, f2]; rfl
  have b17 : z_gI p4 17 = 0 := by rw [f4, f3]; rfl
  have b7 : z_gI q4 7 = nI (n % 8) ||| nI e := by rw [e4, e3, e2]; show z_gI k 14 ||| nI e = _; rw [a5]
  have b8 : z_gI q4 8 = -1 := by rw [e4, e3]; rfl
  have b12 : z_gI q4 12 = nI (n / 64) := by rw [e4, e3, e2]; exact a1
  obtain ⟨o1, o2, o3, o4, o5, o6, o7, o8, o9⟩ := r_ors _ hr
  have eM4 : ∀ q : z_Sg, z_gI q 10 = z_gI m 10 → f_Mo_plus 1 q = some (nI e) := fun q hq => by
    rw [← eM]; unfold f_Mo_plus k_Mo_plus_15; rw [hq]
  have bb : ∀ r, r < 8 → ∃ j, j < 16 ∧ nI r ||| nI e = nI j ∧ nI r + nI e = nI j ∧ ((nI j &&& (7 : Int32)) = 5 ↔ r = 5) := by
    intro r hr
    obtain ⟨o1, o2, o3, o4, o5, o6, o7, o8, o9⟩ := r_ors r hr
    rcases he with rfl | rfl
    · exact ⟨r, by omega, o1, o2, o5⟩
    · exact ⟨r + 8, by omega, o3, o4, o6⟩
  unfold e_k_Mo_takePlace_62
  rw [c14, m9]
  by_cases h4 : n % 8 = 4
  · rw [if_pos (o7.mpr h4), if_pos (o7.mpr h4)]
    refine fetch_b hk4 hD (fun o f c x1 x2 => no_go o f c x1 x2 _) (fun k' b hb hk' => ?_)
    obtain ⟨fk', fm'⟩ := FQ_fr hb
    obtain ⟨f, x, c, x1, x2, x3, x4, x5, x6⟩ := hb
    obtain ⟨n', hn', en⟩ := byte_N x6
    obtain ⟨y1, y2, y3, y4, y5, y6⟩ := b_mod n' hn'
    have el : z_gI k' 4 = nI n' := by rw [x3]; exact en
    have rex' : z_gI k' 6 = z_gI k 6 := by rw [fr_I fk' 6 (by decide)]; exact fr_I fk4 6 (by decide)
    have rexm : z_gI b.2 10 = z_gI m 10 := by rw [fr_I fm' 10 (by decide)]; exact fr_I fm4 10 (by decide)
    refine r_tK rfl ?_
    have eK' : ∀ q : z_Sg, z_gI q 6 = z_gI k 6 → f_De_extension 1 q = some (nI e) := fun q hq => by
      rw [← eK]; unfold f_De_extension k_De_extension_15; rw [hq]
    obtain ⟨e', he', eK2, eM2⟩ := ext_eq g6 2
    have eK2' : ∀ q : z_Sg, z_gI q 6 = z_gI k 6 → f_De_extension 2 q = some (nI e') := fun q hq => by
      rw [← eK2]; unfold f_De_extension k_De_extension_15; rw [hq]
    have eM2' : ∀ q : z_Sg, z_gI q 10 = z_gI m 10 → f_Mo_plus 2 q = some (nI e') := fun q hq => by
      rw [← eM2]; unfold f_Mo_plus k_Mo_plus_15; rw [hq]
    show z_r k0 ((f_De_extension 1 k').bind _) _ _
    rw [eK' k' rex', po_bs2]
    refine r_nK (fun q17 e17 => ?_)
    have r17 : z_gI q17 6 = z_gI k 6 := by rw [e17]; exact rex'
    rw [eK2' q17 r17, po_bs2]
    refine r_nK (fun q19 e19 => ?_)
    refine r_nM (fun s11 g11 => ?_)
    have rm11 : z_gI s11 10 = z_gI m 10 := by rw [g11]; exact rexm
    rw [eM2' s11 rm11, po_bs2]
    refine r_nM (fun s13 g13 => ?_)
    have hj : n' / 8 % 8 < 8 := by omega
    obtain ⟨i1, i2, i3, i4, i5, i6, i7, i8, i9⟩ := r_ors _ hj
    have hidx : ∃ j, j < 16 ∧ nI (n' / 8 % 8) ||| nI e' = nI j ∧ nI (n' / 8 % 8) + nI e' = nI j := by
      rcases he' with rfl | rfl
      · exact ⟨_, by omega, i1, i2⟩
      · exact ⟨_, by omega, i3, i4⟩
    obtain ⟨j, hj16, ej1, ej2⟩ := hidx
    have q17_4 : z_gI q17 4 = nI n' := by rw [e17]; exact el
    have k8 : z_gI q19 8 = nI j := by
      rw [e19]
      show (((z_gI q17 4) >>> ((3 : Int32) &&& 31)) &&& (7 : Int32)) ||| nI e' = _
      rw [q17_4, y2, ej1]
    have k14 : z_gI s13 14 = nI j := by
      rw [g13]
      show ((b.1 / (8 : Int32)) - (((b.1 / (8 : Int32)) / (8 : Int32)) * (8 : Int32))) + nI e' = _
      rw [en, y5, ej2]
    obtain ⟨jb, hjb, eb1, eb2, eb3⟩ := bb (n' % 8) (by omega)
    have k7 : z_gI q19 7 = nI jb := by
      rw [e19, e17]
      show ((z_gI k' 4) &&& (7 : Int32)) ||| nI e = _
      rw [el, y3, eb1]
    have j4 : nI j = 4 ↔ j = 4 := by
      have : ∀ j, j < 16 → (nI j = 4 ↔ j = 4) := by decide +kernel
      exact this j hj16
    have fin : ∀ (t : Int32) (s : z_Sg), fr [6] [1, 6, 12, 13, 14, 17] [3] [] m s → DR q19 s → z_gI s 7 = nI (n / 64) → z_gI s 13 = -1 → z_gI s 17 = 0 → z_gL s 6 = 0 → z_gI s 10 = z_gI m 10 → ((t = -1 ∧ z_gI s 14 = -1) ∨ (t = nI j ∧ j ≠ 4 ∧ z_gI s 14 = nI j)) → z_gI s 12 = nI (n' / 64) → z_r k0 (k_De_fetchPlace_97 t q19) (e_k_Mo_takePlace_167 (nI by_) b.1 s) (PQr k m) := by
      intro t s fs hDs s7 s13 s17 s6 s10 ht s12
      unfold k_De_fetchPlace_97 e_k_Mo_takePlace_167
      refine r_nK (fun q21 e21 => r_nK (fun q22 e22 => ?_))
      have l22 : z_gI q21 4 = nI n' := by rw [e21, e19]; exact q17_4
      have v12 : z_gI q22 12 = nI (n / 64) := by
        rw [e22, e21, e19, e17]
        show z_gI k' 12 = _
        rw [fr_I fk' 12 (by decide)]; exact b12
      rw [hK q22 v12]
      have fk22 : fr [6, 7, 8] [3, 4, 7, 8, 9] [] [] k q22 := by
        rw [e22, e21, e19, e17]
        exact fr_sI (fr_sI (fr_sI (fr_sI (fr_t fk4 (fr_w fk' (by decide) (by decide) (by decide) (by decide))) (by decide)) (by decide)) (by decide)) (by decide)
      have hk22 : ∃ f c, KF k0 q22 f c := by
        obtain ⟨f0, c0, hk0⟩ := hk'
        exact ⟨f0, c0, by rw [e22, e21, e19, e17]; exact hk0⟩
      have D22 : DR q22 s := by
        rw [e22, e21]
        exact DR_fr hDs (Lk := []) (Ik := [8, 9]) (Mk := []) (Nk := []) (Lm := []) (Im := []) (Mm := []) (Nm := []) (fr_sI (fr_sI fr_0 (by decide)) (by decide)) fr_0 (by decide) (by decide) (by decide) (by decide) (by decide) (by decide) (by decide)
      have v7 : z_gI q22 7 = nI jb := by rw [e22, e21]; exact k7
      have v8 : z_gI q22 8 = t := by rw [e22, e21]; rfl
      have v9 : z_gI q22 9 = nI (n' / 64) := by
        rw [e22]
        show (z_gI q21 4) >>> ((6 : Int32) &&& 31) = _
        rw [l22, y1]
      have v14 : z_gI q22 14 = nI (n % 8) := by
        rw [e22, e21, e19, e17]
        show z_gI k' 14 = _
        rw [fr_I fk' 14 (by decide)]; exact c14
      have hix : ∀ q s' : z_Sg, z_gI q 8 = t → z_gI q 9 = nI (n' / 64) → z_gI s' 14 = z_gI s 14 → z_gI s' 12 = z_gI s 12 → ((z_gI q 8 = -1 ∧ z_gI s' 14 = -1) ∨ (∃ j s, j < 16 ∧ j ≠ 4 ∧ s < 4 ∧ z_gI q 8 = nI j ∧ z_gI s' 14 = nI j ∧ z_gI q 9 = nI s ∧ z_gI s' 12 = nI s)) := by
        intro q s' t1 t2 t3 t4
        rw [t1, t2, t3, t4]
        rcases ht with ⟨ht1, ht2⟩ | ⟨ht1, ht2, ht3⟩
        · exact Or.inl ⟨ht1, ht2⟩
        · exact Or.inr ⟨j, n' / 64, hj16, ht2, by omega, ht1, ht3, rfl, s12⟩
      rw [en, y6]
      unfold k_De_fetchPlace_135
      rw [v12, v7, v14]
      have n5 : nI (n' % 8) = 5 ↔ n' % 8 = 5 := (r_ors _ (by omega)).2.2.2.2.2.2.2.1
      have base : ¬ (n / 64 = 0 ∧ n' % 8 = 5) → z_r k0 (k_De_fetchPlace_174 (nI by_) q22) (e_k_Mo_takePlace_187 (nI by_) (nI n') s) (PQr k m) := by
        intro _
        unfold e_k_Mo_takePlace_187
        rw [eM4 s s10, po_bs2]
        refine r_nM (fun w ew => ?_)
        rw [y6, eb2] at ew
        refine place_num hby hk22 ?_ fk22 ?_ ⟨Or.inr (Or.inr ⟨jb, hjb, v7, ?_, ?_⟩), hix q22 w v8 v9 ?_ ?_⟩ ?_
        · rw [ew]
          exact DR_fr D22 (Lk := []) (Ik := []) (Mk := []) (Nk := []) (Lm := []) (Im := [13]) (Mm := []) (Nm := []) fr_0 (fr_sI fr_0 (by decide)) (by decide) (by decide) (by decide) (by decide) (by decide) (by decide) (by decide)
        · rw [ew]; exact fr_sI fs (by decide)
        · rw [ew]; rfl
        · rw [ew]; exact s17
        · rw [ew]; rfl
        · rw [ew]; rfl
        · rw [ew]; exact s6
      by_cases hb5 : n' % 8 = 5
      · rw [if_pos (n5.mpr hb5), s7]
        by_cases hm0 : n / 64 = 0
        · rw [if_pos (d0.mpr hm0), if_pos (eb3.mpr hb5), if_pos (o7.mpr h4), if_pos (d0.mpr hm0)]
          unfold k_De_fetchPlace_169
          refine r_nK (fun w ew => ?_)
          refine place_num (n := 4) (Or.inr (Or.inr rfl)) ?_ ?_ ?_ fs ⟨Or.inr (Or.inl ⟨?_, s17, s13⟩), hix w s ?_ ?_ rfl rfl⟩ s6
          · obtain ⟨f0, c0, hk0⟩ := hk22
            exact ⟨f0, c0, by rw [ew]; exact hk0⟩
          · rw [ew]
            exact DR_fr D22 (Lk := []) (Ik := [7]) (Mk := []) (Nk := []) (Lm := []) (Im := []) (Mm := []) (Nm := []) (fr_sI fr_0 (by decide)) fr_0 (by decide) (by decide) (by decide) (by decide) (by decide) (by decide) (by decide)
          · rw [ew]; exact fr_sI fk22 (by decide)
          · rw [ew]; rfl
          · rw [ew]; exact v8
          · rw [ew]; exact v9
        · rw [if_neg (fun y => hm0 (d0.mp y)), if_neg (fun y => hm0 (d0.mp y))]
          exact base (fun y => hm0 y.1)
      · rw [if_neg (fun y => hb5 (n5.mp y))]
        have := base (fun y => hb5 y.2)
        by_cases hm0 : n / 64 = 0
        · rw [if_pos (d0.mpr hm0), if_neg (fun y => hb5 (eb3.mp y))]; exact this
        · rw [if_neg (fun y => hm0 (d0.mp y))]; exact this
    have D19 : DR q19 s13 := by
      rw [e19, e17, g13, g11]
      exact DR_fr x5 (Lk := []) (Ik := [7, 8]) (Mk := []) (Nk := []) (Lm := []) (Im := [12, 14]) (Mm := []) (Nm := []) (fr_sI (fr_sI fr_0 (by decide)) (by decide)) (fr_sI (fr_sI fr_0 (by decide)) (by decide)) (by decide) (by decide) (by decide) (by decide) (by decide) (by decide) (by decide)
    have fs13 : fr [6] [1, 6, 12, 13, 14, 17] [3] [] m s13 := by
      rw [g13, g11]
      exact fr_sI (fr_sI (fr_t fm4 (fr_w fm' (by decide) (by decide) (by decide) (by decide))) (by decide)) (by decide)
    have t7 : z_gI s13 7 = nI (n / 64) := by rw [g13, g11]; show z_gI b.2 7 = _; rw [fr_I fm' 7 (by decide)]; exact m7
    have t13 : z_gI s13 13 = -1 := by rw [g13, g11]; show z_gI b.2 13 = _; rw [fr_I fm' 13 (by decide)]; exact b13
    have t17 : z_gI s13 17 = 0 := by rw [g13, g11]; show z_gI b.2 17 = _; rw [fr_I fm' 17 (by decide)]; exact b17
    have t6 : z_gL s13 6 = 0 := by rw [g13, g11]; show z_gL b.2 6 = _; rw [fr_L fm' 6 (by decide)]; exact z6
    have t10 : z_gI s13 10 = z_gI m 10 := by rw [g13, g11]; exact rexm
    have t12 : z_gI s13 12 = nI (n' / 64) := by rw [g13, g11]; show b.1 / (64 : Int32) = _; rw [en, y4]
    rw [k8, k14]
    by_cases hj4 : j = 4
    · rw [if_pos (j4.mpr hj4), if_pos (j4.mpr hj4)]
      refine r_nM (fun s22 g22 => ?_)
      refine fin (-1) s22 ?_ ?_ ?_ ?_ ?_ ?_ ?_ (Or.inl ⟨rfl, ?_⟩) ?_
      · rw [g22]; exact fr_sI fs13 (by decide)
      · rw [g22]
        exact DR_fr D19 (Lk := []) (Ik := []) (Mk := []) (Nk := []) (Lm := []) (Im := [14]) (Mm := []) (Nm := []) fr_0 (fr_sI fr_0 (by decide)) (by decide) (by decide) (by decide) (by decide) (by decide) (by decide) (by decide)
      · rw [g22]; exact t7
      · rw [g22]; exact t13
      · rw [g22]; exact t17
      · rw [g22]; exact t6
      · rw [g22]; exact t10
      · rw [g22]; rfl
      · rw [g22]; exact t12
    · rw [if_neg (fun y => hj4 (j4.mp y)), if_neg (fun y => hj4 (j4.mp y))]
      exact fin (nI j) s13 fs13 D19 t7 t13 t17 t6 t10 (Or.inr ⟨rfl, hj4, k14⟩) t12
  · rw [if_neg (fun y => h4 (o7.mp y)), if_neg (fun y => h4 (o7.mp y)), hK q4 b12]
    unfold k_De_fetchPlace_135
    obtain ⟨jb, hjb, eb1, eb2, eb3⟩ := bb (n % 8) hr
    have v7 : z_gI q4 7 = nI jb := by rw [b7, eb1]
    rw [b12, v7, c14, m7]
    have base : z_r k0 (k_De_fetchPlace_174 (nI by_) q4) (e_k_Mo_takePlace_91 (nI by_) p4) (PQr k m) := by
      unfold e_k_Mo_takePlace_91 e_k_Mo_takePlace_92
      refine r_GM (fun _ => r_nM (fun w ew => ?_))
      have w17 : z_gI w 17 = 0 := by rw [ew]; rfl
      rw [if_pos w17, eM4 w (by rw [ew, f4, f3, f2, f1]; rfl), po_bs2]
      refine r_nM (fun w2 ew2 => ?_)
      have w9 : z_gI w 9 = nI (n % 8) := by rw [ew]; exact m9
      rw [w9, eb2] at ew2
      refine place_num hby hk4 ?_ fk4 ?_ ⟨Or.inr (Or.inr ⟨jb, hjb, v7, ?_, ?_⟩), Or.inl ⟨b8, ?_⟩⟩ ?_
      · rw [ew2, ew]
        exact DR_fr hD (Lk := []) (Ik := []) (Mk := []) (Nk := []) (Lm := []) (Im := [13, 17]) (Mm := []) (Nm := []) fr_0 (fr_sI (fr_sI fr_0 (by decide)) (by decide)) (by decide) (by decide) (by decide) (by decide) (by decide) (by decide) (by decide)
      · rw [ew2, ew]; exact fr_sI (fr_sI fm4 (by decide)) (by decide)
      · rw [ew2]; rfl
      · rw [ew2]; exact w17
      · rw [ew2, ew]; exact b14
      · rw [ew2, ew]; exact z6
    by_cases h5 : n % 8 = 5
    · rw [if_pos (o8.mpr h5)]
      by_cases hm0 : n / 64 = 0
      · rw [if_pos (d0.mpr hm0), if_pos (eb3.mpr h5), if_neg (fun y => h4 (o7.mp y)), if_pos (d0.mpr hm0)]
        unfold k_De_fetchPlace_169 e_k_Mo_takePlace_92
        refine r_nK (fun v ev => r_GM (fun _ => r_nM (fun w ew => ?_)))
        have w17 : ¬ z_gI w 17 = 0 := by rw [ew]; show ¬ (1 : Int32) = 0; decide
        rw [if_neg w17]
        refine place_num (n := 4) (Or.inr (Or.inr rfl)) ?_ ?_ ?_ ?_ ⟨Or.inl ⟨?_, ?_, ?_⟩, Or.inl ⟨?_, ?_⟩⟩ ?_
        · obtain ⟨f0, c0, hk0⟩ := hk4
          exact ⟨f0, c0, by rw [ev]; exact hk0⟩
        · rw [ev, ew]
          exact DR_fr hD (Lk := []) (Ik := [7]) (Mk := []) (Nk := []) (Lm := []) (Im := [17]) (Mm := []) (Nm := []) (fr_sI fr_0 (by decide)) (fr_sI fr_0 (by decide)) (by decide) (by decide) (by decide) (by decide) (by decide) (by decide) (by decide)
        · rw [ev]; exact fr_sI fk4 (by decide)
        · rw [ew]; exact fr_sI fm4 (by decide)
        · rw [ev]; rfl
        · rw [ew]; rfl
        · rw [ew]; exact b13
        · rw [ev]; exact b8
        · rw [ew]; exact b14
        · rw [ew]; exact z6
      · rw [if_neg (fun y => hm0 (d0.mp y)), if_neg (fun y => hm0 (d0.mp y))]
        exact base
    · rw [if_neg (fun y => h5 (o8.mp y))]
      by_cases hm0 : n / 64 = 0
      · rw [if_pos (d0.mpr hm0), if_neg (fun y => h5 (eb3.mp y))]; exact base
      · rw [if_neg (fun y => hm0 (d0.mp y))]; exact base
