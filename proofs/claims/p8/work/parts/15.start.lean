theorem d_law_0 : decode code 0 = .ok (.new 7, 3) := by decide +kernel
theorem d_law_3 : decode code 3 = .ok (.dup, 1) := by decide +kernel
theorem d_law_4 : decode code 4 = .ok (.invokespecial 9, 3) := by decide +kernel
theorem d_law_7 : decode code 7 = .ok (.astore_n 1, 1) := by decide +kernel
theorem d_law_8 : decode code 8 = .ok (.new 10, 3) := by decide +kernel
theorem d_law_11 : decode code 11 = .ok (.dup, 1) := by decide +kernel
theorem d_law_12 : decode code 12 = .ok (.invokespecial 12, 3) := by decide +kernel
theorem d_law_15 : decode code 15 = .ok (.astore_n 2, 1) := by decide +kernel
theorem d_law_16 : decode code 16 = .ok (.iconst 0, 1) := by decide +kernel
theorem d_law_17 : decode code 17 = .ok (.istore_n 3, 1) := by decide +kernel
set_option maxHeartbeats 4000000 in
set_option maxRecDepth 100000 in
theorem z_classes {s : State} {args : Array Value} (hts : ∀ w ∈ z_tbl, w.before args s = true) : ∃ D : va_G, va_K D vwCl [] s := by
  obtain ⟨c0, i0, h0⟩ := u_known (C := z_RCo) (T := z_TCo) (N := 8) (n := 8) hts z_iCo (hts _ is_Co)
  obtain ⟨c1, i1, h1⟩ := u_known (C := z_RAr) (T := z_TAr) (N := 1) (n := 1) hts z_iAr (hts _ is_Ar)
  obtain ⟨c2, i2, h2⟩ := u_known (C := z_RDe) (T := z_TDe) (N := 19) (n := 19) hts z_iDe (hts _ is_De)
  obtain ⟨c3, i3, h3⟩ := u_known (C := z_RFl) (T := z_TFl) (N := 5) (n := 5) hts z_iFl (hts _ is_Fl)
  obtain ⟨c4, i4, h4⟩ := u_known (C := z_ROn) (T := z_TOn) (N := 5) (n := 5) hts z_iOn (hts _ is_On)
  obtain ⟨c5, i5, h5⟩ := u_known (C := z_ROp) (T := z_TOp) (N := 4) (n := 4) hts z_iOp (hts _ is_Op)
  obtain ⟨c6, i6, h6⟩ := u_known (C := z_RPa) (T := z_TPa) (N := 2) (n := 2) hts z_iPa (hts _ is_Pa)
  obtain ⟨c7, i7, h7⟩ := u_known (C := z_RSp) (T := z_TSp) (N := 3) (n := 3) hts z_iSp (hts _ is_Sp)
  obtain ⟨c8, i8, h8⟩ := u_known (C := z_RSt) (T := z_TSt) (N := 10) (n := 10) hts z_iSt (hts _ is_St)
  obtain ⟨c9, i9, h9⟩ := u_known (C := z_RSr) (T := z_TSr) (N := 6) (n := 6) hts z_iSr (hts _ is_Sr)
  obtain ⟨c10, i10, h10⟩ := u_known (C := z_RTw) (T := z_TTw) (N := 4) (n := 4) hts z_iTw (hts _ is_Tw)
  obtain ⟨c11, i11, h11⟩ := u_known (C := z_RWi) (T := z_TWi) (N := 3) (n := 3) hts z_iWi (hts _ is_Wi)
  obtain ⟨c12, i12, h12⟩ := u_known (C := z_RMo) (T := z_TMo) (N := 38) (n := 38) hts z_iMo (hts _ is_Mo)
  have h : ∀ k : Nat, ∃ (c : ClassId) (f : Nat → Nat), ∀ q : vw_C, vwCl[k]? = some q → u_Kn s q.1 q.2.1 q.2.2 c f := by
    intro k
    match k with
    | 0 => exact ⟨c0, i0, fun q hq => by cases hq; exact h0⟩
    | 1 => exact ⟨c1, i1, fun q hq => by cases hq; exact h1⟩
    | 2 => exact ⟨c2, i2, fun q hq => by cases hq; exact h2⟩
    | 3 => exact ⟨c3, i3, fun q hq => by cases hq; exact h3⟩
    | 4 => exact ⟨c4, i4, fun q hq => by cases hq; exact h4⟩
    | 5 => exact ⟨c5, i5, fun q hq => by cases hq; exact h5⟩
    | 6 => exact ⟨c6, i6, fun q hq => by cases hq; exact h6⟩
    | 7 => exact ⟨c7, i7, fun q hq => by cases hq; exact h7⟩
    | 8 => exact ⟨c8, i8, fun q hq => by cases hq; exact h8⟩
    | 9 => exact ⟨c9, i9, fun q hq => by cases hq; exact h9⟩
    | 10 => exact ⟨c10, i10, fun q hq => by cases hq; exact h10⟩
    | 11 => exact ⟨c11, i11, fun q hq => by cases hq; exact h11⟩
    | 12 => exact ⟨c12, i12, fun q hq => by cases hq; exact h12⟩
    | k + 13 => exact ⟨c0, i0, fun q hq => by simp [vwCl] at hq⟩
  exact ⟨(fun k => Classical.choose (h k), fun k => Classical.choose (Classical.choose_spec (h k))), fun k q hq => Classical.choose_spec (Classical.choose_spec (h k)) q hq, fun k q hq => by simp at hq⟩
set_option maxHeartbeats 4000000 in
set_option maxRecDepth 100000 in
/-- THE LAW, from its entry: two new systems, then its loop -/
theorem whole_open {p : Program} {e : Env} {s : State} {m : MethodId} {below : List Frame} {meth : Method} {c : Code} (l : Launch) {b L : Nat} {xs : Nat → Int32} (hpure : k_law_18 xs L 0 (z_0K, z_0M) = some 1) (C0 : lw_At p s m meth c b L xs) : W p l e room_1 s m #[Value.ref b] below meth c s.heap [] 0 0 (lw_Z below #[Value.ref b] s) (entryFrame m ([Value.ref b] : List Value).toArray 4) := by
  obtain ⟨hx, hb, hr, hml, hown, hts0, hX, hbl, hlocks, hgv⟩ := id C0
  have hts : ∀ w ∈ z_tbl, w.before #[Value.ref b] s = true := fun w h => hts0 w (List.mem_filter.mp h).1
  obtain ⟨A, hAd⟩ : ∃ A : Nat → Prop, A = fun q : Nat => s.heap.size ≤ q := ⟨_, rfl⟩
  have hA : ∀ q : Nat, s.heap.size ≤ q → A q := fun q h => by rw [hAd]; exact h
  obtain ⟨D, hK⟩ := z_classes hts
  have C1 : z_cx z_RLa code 4 ret D [] A p s m #[Value.ref b] meth c := ⟨hx, hb, hr, hlocks, hml, hown, hts, hK, hA⟩
  have hS : va_S A s.heap s.heap [] := va_S.rf
  have hP : va_P D vwCl [] s.heap := fun k q h => by simp at h
  have hD : va_D A [] := ⟨fun i j p q h => by simp at h, fun k q h => by simp at h⟩
  refine z_entry (lv := [(0, .ref b)]) (Nat.le_of_ble_eq_true rfl) rfl (fun ls hl => ?_)
  refine va_new (ci := 0) (fs := [.null, .null, .null, .null, .null, .null, .null, .null]) (C := z_RCo) (T := z_TCo) (N := 8) hx hb hts z_iCo z_yCo z_kCo hown (hts _ cl_La_7) (hts _ is_Co) (hts _ in_Co) hK hP hD hS hA rfl (by decide +kernel) (Nat.le_of_ble_eq_true rfl) (Nat.le_of_ble_eq_true rfl) d_law_0 (fun q1 H hP hD hS => ?_)
  refine W.widen (k := 1) (n := 8) (Nat.le_of_ble_eq_true rfl) (Nat.le_of_ble_eq_true rfl) ?_
  refine lv_dup hx hb d_law_3 rfl ?_
  refine z_in (rest := [.ref q1]) (As := []) (b := q1) (wr := []) C1 hK hP hD hS (c_Co_init q1) mi_Co ml_La_9 [0] [] rfl rfl (by decide) (by decide) (by decide) ⟨Nat.le_of_ble_eq_true rfl, Nat.le_of_ble_eq_true rfl⟩ ⟨Nat.le_of_ble_eq_true rfl, Nat.le_of_ble_eq_true rfl⟩ rfl hl.1 rfl (Nat.le_of_ble_eq_true rfl) d_law_4 (fun u H locs hu hP hD hS hK => ?_)
  obtain ⟨ad, ca⟩ := u
  have hu : ad 0 = q1 := hu
  have hP : va_P D vwCl (z_K ad ca z_0K) H := hP
  have hD : va_D A (z_K ad ca z_0K) := hD
  have hK : va_K D vwCl (z_Kt ca) s := hK
  refine W.widen (k := 21) (n := 4223) (Nat.le_of_ble_eq_true rfl) (Nat.le_of_ble_eq_true rfl) ?_
  refine lv_astore_n (lv' := [(1, .ref q1), (0, .ref b)]) hx hb d_law_7 rfl hl (by decide) rfl (fun ls hl => ?_)
  refine va_new (ci := 12) (fs := [.null, .null, .null, .long 0, .long 0, .long 0, .long 0, .long 0, .long 0, .int 0, .int 0, .int 0, .int 0, .null, .null, .int 0, .null, .null, .int 0, .null, .int 0, .int 0, .int 0, .int 0, .int 0, .int 0, .int 0, .int 0, .int 0, .int 0, .int 0, .int 0, .int 0, .long 0, .long 0, .long 0, .long 0, .int 0]) (C := z_RMo) (T := z_TMo) (N := 38) hx hb hts z_iMo z_yMo z_kMo hown (hts _ cl_La_10) (hts _ is_Mo) (hts _ in_Mo) hK hP hD hS hA rfl (by decide +kernel) (Nat.le_of_ble_eq_true rfl) (Nat.le_of_ble_eq_true rfl) d_law_8 (fun q2 H hP hD hS => ?_)
  refine W.widen (k := 22) (n := 4261) (Nat.le_of_ble_eq_true rfl) (Nat.le_of_ble_eq_true rfl) ?_
  refine lv_dup hx hb d_law_11 rfl ?_
  refine z_in (rest := [.ref q2]) (As := []) (b := q2) (wr := z_K ad ca z_0K) C1 hK hP hD hS (c_Mo_init q2) mi_Mo ml_La_12 [21] [0, 1, 2, 3, 4, 5, 6, 7, 8, 9, 10, 11, 12, 13, 14, 15, 16, 17, 18, 19, 20] rfl rfl (by decide) (by decide) (by decide) ⟨Nat.le_of_ble_eq_true rfl, Nat.le_of_ble_eq_true rfl⟩ ⟨Nat.le_of_ble_eq_true rfl, Nat.le_of_ble_eq_true rfl⟩ rfl hl.1 rfl (Nat.le_of_ble_eq_true rfl) d_law_12 (fun v H9 locs9 hv hP9 hD9 hS9 hK9 => ?_)
  obtain ⟨bd, cb⟩ := v
  have hv : bd 0 = q2 := hv
  refine W.widen (k := 30) (n := 37115) (Nat.le_of_ble_eq_true rfl) (Nat.le_of_ble_eq_true rfl) ?_
  refine lv_astore_n (lv' := [(2, .ref q2), (1, .ref q1), (0, .ref b)]) hx hb d_law_15 rfl hl (by decide) rfl (fun ls hl => ?_)
  refine lv_iconst (v := 0) hx hb d_law_16 (by decide) ?_
  refine lv_istore_n (lv' := [(3, .int 0), (2, .ref q2), (1, .ref q1), (0, .ref b)]) hx hb d_law_17 rfl hl (by decide) rfl (fun ls9 hl9 => ?_)
  subst hu
  subst hv
  subst hAd
  have C2 : z_cx z_RLa code 4 ret D (z_2t ca cb) (fun q : Nat => s.heap.size ≤ q) p s m #[Value.ref b] meth c := ⟨hx, hb, hr, hlocks, hml, hown, hts, hK9, hA⟩
  exact w_law_18 C2 hX hbl (z_0K, z_0M) 0 hpure H9 locs9 ls9 ⟨hP9, hD9, hS9⟩ (lv_sub hl9 [3, 2, 1, 0] rfl)
