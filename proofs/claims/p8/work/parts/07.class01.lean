def k_De_bytesOfNumber_94 (q : z_Sg) : Option Int32 :=
  (f_De_sizeV q).bind (fun r8 => (f_Ma_min r8 (4 : Int32) q).bind (fun r9 => some r9))
def k_De_bytesOfNumber_112 (t0 : Int32) (q : z_Sg) : Option Int32 :=
  some t0
def k_De_bytesOfNumber_103 (x2 : Int32) (q : z_Sg) : Option Int32 :=
  if x2 = 0 then (k_De_bytesOfNumber_112 (0 : Int32) q) else (k_De_bytesOfNumber_112 (1 : Int32) q)
def k_De_bytesOfNumber_71 (x1 : Int32) (t0 : Int32) (q : z_Sg) : Option Int32 :=
  if (x1 &&& (128 : Int32)) = 0 then (if t0 = 0 then (k_De_bytesOfNumber_103 t0 q) else (if (z_gI q 11) = (247 : Int32) then (k_De_bytesOfNumber_94 q) else (k_De_bytesOfNumber_103 t0 q))) else (k_De_bytesOfNumber_94 q)
def k_De_bytesOfNumber_70 (x1 : Int32) (q : z_Sg) : Option Int32 :=
  k_De_bytesOfNumber_71 x1 (0 : Int32) q
def k_De_bytesOfNumber_59 (x1 : Int32) (q : z_Sg) : Option Int32 :=
  if (z_gI q 13) = 0 then (k_De_bytesOfNumber_71 x1 (1 : Int32) q) else (k_De_bytesOfNumber_70 x1 q)
def f_De_bytesOfNumber (x1 : Int32) (q : z_Sg) : Option Int32 :=
  if (x1 &&& (8 : Int32)) = 0 then (if (x1 &&& (16 : Int32)) = 0 then (if (x1 &&& (32 : Int32)) = 0 then (if (x1 &&& (64 : Int32)) = 0 then (if (z_gI q 11) = (246 : Int32) then (k_De_bytesOfNumber_59 x1 q) else (if (z_gI q 11) = (247 : Int32) then (k_De_bytesOfNumber_59 x1 q) else (k_De_bytesOfNumber_70 x1 q))) else ((f_De_sizeV q).bind (fun r14 => some r14))) else (some (4 : Int32))) else (some (2 : Int32))) else (some (1 : Int32))
set_option maxHeartbeats 4000000 in
set_option maxRecDepth 100000 in
theorem w_De_bytesOfNumber_94 {p : Program} {l : Launch} {e : Env} {s : State} {m : MethodId} {args : Array Value} {below : List Frame} {meth : Method} {c : Code} {D : va_G} {A : Nat → Prop} {ad : Nat → Nat} {ca : Nat → ClassId} (o : Int32) (C0 : z_cx z_RDe b_De_bytesOfNumber 3 (some .int) D (z_Kt ca) A p s m args meth c) (q : z_Sg) (h : k_De_bytesOfNumber_94 q = some o) : ∀ (H : Heap) (locs : List Loc) (ls : Array Slot), z_wd D (z_K ad ca q) A s H locs → lv_has ls 3 [(0, .ref (ad 5))] → W p l e (z_rm 1 21) s m args below meth c H locs 0 0 (z_qi below D (z_Kt ca) (z_K ad ca q) A s args o) (F0 m 94 ls []) := by
  obtain ⟨hx, hb, hr, hlk, hml, hown, hts, hK, hA⟩ := id C0
  intro H locs ls hw hl
  refine lv_aload_n hx hb d_De_bytesOfNumber_94 rfl (lv_at hl 0 rfl) ?_
  obtain ⟨r8, er8, h⟩ := ok_b h
  refine z_vi (rest := []) C0 hw (c_De_sizeV q r8 er8) mw_De_sizeV ml_De_100 5 rfl ⟨Nat.le_of_ble_eq_true rfl, Nat.le_of_ble_eq_true rfl⟩ ⟨Nat.le_refl 0, Nat.le_refl 0⟩ rfl hl.1 rfl (Nat.le_of_ble_eq_true rfl) d_De_bytesOfNumber_95 (fun H locs hw => ?_)
  refine lv_iconst (v := (4 : Int32)) hx hb d_De_bytesOfNumber_98 (by decide) ?_
  obtain ⟨r9, er9, h⟩ := ok_b h
  refine z_si (rest := []) C0 hw (c_Ma_min r8 (4 : Int32) q r9 er9) mw_Ma_min ml_De_128 ⟨Nat.le_of_ble_eq_true rfl, Nat.le_of_ble_eq_true rfl⟩ ⟨Nat.le_refl 0, Nat.le_refl 0⟩ rfl hl.1 rfl (Nat.le_of_ble_eq_true rfl) d_De_bytesOfNumber_99 (fun H locs hw => ?_)
  have ho := Option.some.inj h
  subst ho
  exact z_rti C0 hw d_De_bytesOfNumber_102
set_option maxHeartbeats 4000000 in
set_option maxRecDepth 100000 in
theorem w_De_bytesOfNumber_112 {p : Program} {l : Launch} {e : Env} {s : State} {m : MethodId} {args : Array Value} {below : List Frame} {meth : Method} {c : Code} {D : va_G} {A : Nat → Prop} {ad : Nat → Nat} {ca : Nat → ClassId} (o : Int32) (C0 : z_cx z_RDe b_De_bytesOfNumber 3 (some .int) D (z_Kt ca) A p s m args meth c) (q : z_Sg) (t0 : Int32) (h : k_De_bytesOfNumber_112 t0 q = some o) : ∀ (H : Heap) (locs : List Loc) (ls : Array Slot), z_wd D (z_K ad ca q) A s H locs → lv_has ls 3 [] → W p l e (z_rm 1 21) s m args below meth c H locs 0 0 (z_qi below D (z_Kt ca) (z_K ad ca q) A s args o) (F0 m 112 ls [.int t0]) := by
  obtain ⟨hx, hb, hr, hlk, hml, hown, hts, hK, hA⟩ := id C0
  intro H locs ls hw hl
  have ho := Option.some.inj h
  subst ho
  exact z_rti C0 hw d_De_bytesOfNumber_112
set_option maxHeartbeats 4000000 in
set_option maxRecDepth 100000 in
theorem w_De_bytesOfNumber_103 {p : Program} {l : Launch} {e : Env} {s : State} {m : MethodId} {args : Array Value} {below : List Frame} {meth : Method} {c : Code} {D : va_G} {A : Nat → Prop} {ad : Nat → Nat} {ca : Nat → ClassId} (o : Int32) (C0 : z_cx z_RDe b_De_bytesOfNumber 3 (some .int) D (z_Kt ca) A p s m args meth c) (q : z_Sg) (x2 : Int32) (h : k_De_bytesOfNumber_103 x2 q = some o) : ∀ (H : Heap) (locs : List Loc) (ls : Array Slot), z_wd D (z_K ad ca q) A s H locs → lv_has ls 3 [(2, .int x2)] → W p l e (z_rm 1 21) s m args below meth c H locs 0 0 (z_qi below D (z_Kt ca) (z_K ad ca q) A s args o) (F0 m 103 ls []) := by
  obtain ⟨hx, hb, hr, hlk, hml, hown, hts, hK, hA⟩ := id C0
  intro H locs ls hw hl
  refine lv_iload_n hx hb d_De_bytesOfNumber_103 rfl (lv_at hl 0 rfl) ?_
  refine lv_if_eq (tgt := 111) hx hb d_De_bytesOfNumber_104 (by decide) (fun c11 => ?_) (fun c11 => ?_)
  · have h := ok_t h c11
    refine lv_iconst (v := (0 : Int32)) hx hb d_De_bytesOfNumber_111 (by decide) ?_
    exact w_De_bytesOfNumber_112 o C0 q (0 : Int32) h H locs ls hw (lv_sub hl [] rfl)
  · have h := ok_f h c11
    refine lv_iconst (v := (1 : Int32)) hx hb d_De_bytesOfNumber_107 (by decide) ?_
    refine lv_goto (tgt := 112) hx hb d_De_bytesOfNumber_108 (by decide) ?_
    exact w_De_bytesOfNumber_112 o C0 q (1 : Int32) h H locs ls hw (lv_sub hl [] rfl)
set_option maxHeartbeats 4000000 in
set_option maxRecDepth 100000 in
theorem w_De_bytesOfNumber_71 {p : Program} {l : Launch} {e : Env} {s : State} {m : MethodId} {args : Array Value} {below : List Frame} {meth : Method} {c : Code} {D : va_G} {A : Nat → Prop} {ad : Nat → Nat} {ca : Nat → ClassId} (o : Int32) (C0 : z_cx z_RDe b_De_bytesOfNumber 3 (some .int) D (z_Kt ca) A p s m args meth c) (q : z_Sg) (x1 : Int32) (t0 : Int32) (h : k_De_bytesOfNumber_71 x1 t0 q = some o) : ∀ (H : Heap) (locs : List Loc) (ls : Array Slot), z_wd D (z_K ad ca q) A s H locs → lv_has ls 3 [(0, .ref (ad 5)), (1, .int x1)] → W p l e (z_rm 1 21) s m args below meth c H locs 0 0 (z_qi below D (z_Kt ca) (z_K ad ca q) A s args o) (F0 m 71 ls [.int t0]) := by
  obtain ⟨hx, hb, hr, hlk, hml, hown, hts, hK, hA⟩ := id C0
  intro H locs ls hw hl
  refine lv_istore_n (lv' := [(2, .int t0), (0, .ref (ad 5)), (1, .int x1)]) hx hb d_De_bytesOfNumber_71 rfl hl (by decide) rfl (fun ls hl => ?_)
  refine lv_iload_n hx hb d_De_bytesOfNumber_72 rfl (lv_at hl 2 rfl) ?_
  refine lv_sipush (v := (128 : Int32)) hx hb d_De_bytesOfNumber_73 (by decide) ?_
  refine lv_iand hx hb d_De_bytesOfNumber_76 ?_
  refine lv_if_ne (tgt := 94) hx hb d_De_bytesOfNumber_77 (by decide) (fun c7 => ?_) (fun c7 => ?_)
  · have h := ok_f h c7
    exact w_De_bytesOfNumber_94 o C0 q h H locs ls hw (lv_sub hl [1] rfl)
  · have h := ok_t h c7
    refine lv_iload_n hx hb d_De_bytesOfNumber_80 rfl (lv_at hl 0 rfl) ?_
    refine lv_if_eq (tgt := 103) hx hb d_De_bytesOfNumber_81 (by decide) (fun c10 => ?_) (fun c10 => ?_)
    · have h := ok_t h c10
      exact w_De_bytesOfNumber_103 o C0 q t0 h H locs ls hw (lv_sub hl [0] rfl)
    · have h := ok_f h c10
      refine lv_aload_n hx hb d_De_bytesOfNumber_84 rfl (lv_at hl 1 rfl) ?_
      refine gfK_5_opcode C0 hw fl_De_23 d_De_bytesOfNumber_85 ?_
      refine lv_sipush (v := (247 : Int32)) hx hb d_De_bytesOfNumber_88 (by decide) ?_
      refine lv_icmp_ne (tgt := 103) hx hb d_De_bytesOfNumber_91 (by decide) (fun c12 => ?_) (fun c12 => ?_)
      · have h := ok_f h c12
        exact w_De_bytesOfNumber_103 o C0 q t0 h H locs ls hw (lv_sub hl [0] rfl)
      · have h := ok_t h c12
        exact w_De_bytesOfNumber_94 o C0 q h H locs ls hw (lv_sub hl [1] rfl)
set_option maxHeartbeats 4000000 in
set_option maxRecDepth 100000 in
theorem w_De_bytesOfNumber_70 {p : Program} {l : Launch} {e : Env} {s : State} {m : MethodId} {args : Array Value} {below : List Frame} {meth : Method} {c : Code} {D : va_G} {A : Nat → Prop} {ad : Nat → Nat} {ca : Nat → ClassId} (o : Int32) (C0 : z_cx z_RDe b_De_bytesOfNumber 3 (some .int) D (z_Kt ca) A p s m args meth c) (q : z_Sg) (x1 : Int32) (h : k_De_bytesOfNumber_70 x1 q = some o) : ∀ (H : Heap) (locs : List Loc) (ls : Array Slot), z_wd D (z_K ad ca q) A s H locs → lv_has ls 3 [(0, .ref (ad 5)), (1, .int x1)] → W p l e (z_rm 1 21) s m args below meth c H locs 0 0 (z_qi below D (z_Kt ca) (z_K ad ca q) A s args o) (F0 m 70 ls []) := by
  obtain ⟨hx, hb, hr, hlk, hml, hown, hts, hK, hA⟩ := id C0
  intro H locs ls hw hl
  refine lv_iconst (v := (0 : Int32)) hx hb d_De_bytesOfNumber_70 (by decide) ?_
  exact w_De_bytesOfNumber_71 o C0 q x1 (0 : Int32) h H locs ls hw (lv_sub hl [0, 1] rfl)
set_option maxHeartbeats 4000000 in
set_option maxRecDepth 100000 in
theorem w_De_bytesOfNumber_59 {p : Program} {l : Launch} {e : Env} {s : State} {m : MethodId} {args : Array Value} {below : List Frame} {meth : Method} {c : Code} {D : va_G} {A : Nat → Prop} {ad : Nat → Nat} {ca : Nat → ClassId} (o : Int32) (C0 : z_cx z_RDe b_De_bytesOfNumber 3 (some .int) D (z_Kt ca) A p s m args meth c) (q : z_Sg) (x1 : Int32) (h : k_De_bytesOfNumber_59 x1 q = some o) : ∀ (H : Heap) (locs : List Loc) (ls : Array Slot), z_wd D (z_K ad ca q) A s H locs → lv_has ls 3 [(0, .ref (ad 5)), (1, .int x1)] → W p l e (z_rm 1 21) s m args below meth c H locs 0 0 (z_qi below D (z_Kt ca) (z_K ad ca q) A s args o) (F0 m 59 ls []) := by
  obtain ⟨hx, hb, hr, hlk, hml, hown, hts, hK, hA⟩ := id C0
  intro H locs ls hw hl
  refine lv_aload_n hx hb d_De_bytesOfNumber_59 rfl (lv_at hl 0 rfl) ?_
  refine gfK_5_reg C0 hw fl_De_103 d_De_bytesOfNumber_60 ?_
  refine lv_if_ne (tgt := 70) hx hb d_De_bytesOfNumber_63 (by decide) (fun c6 => ?_) (fun c6 => ?_)
  · have h := ok_f h c6
    exact w_De_bytesOfNumber_70 o C0 q x1 h H locs ls hw (lv_sub hl [0, 1] rfl)
  · have h := ok_t h c6
    refine lv_iconst (v := (1 : Int32)) hx hb d_De_bytesOfNumber_66 (by decide) ?_
    refine lv_goto (tgt := 71) hx hb d_De_bytesOfNumber_67 (by decide) ?_
    exact w_De_bytesOfNumber_71 o C0 q x1 (1 : Int32) h H locs ls hw (lv_sub hl [0, 1] rfl)
set_option maxHeartbeats 4000000 in
set_option maxRecDepth 100000 in
theorem c_De_bytesOfNumber {l : Launch} {D : va_G} {ad : Nat → Nat} {ca : Nat → ClassId} (x1 : Int32) (q : z_Sg) (o : Int32) (h : f_De_bytesOfNumber x1 q = some o) : z_ci l y_De_bytesOfNumber b_De_bytesOfNumber 3 (some .int) 1 21 D (z_Kt ca) (z_K ad ca q) (z_K ad ca q) [.ref (ad 5), .int x1] o := by
  refine z_ci_of (own := z_RDe) (by decide) rfl ?_
  intro p e s m below meth c A C0 hw
  obtain ⟨hx, hb, hr, hlk, hml, hown, hts, hK, hA⟩ := id C0
  generalize hH : s.heap = H at hw ⊢
  generalize hlo : ([] : List Loc) = locs at hw ⊢
  refine z_entry (lv := [(0, .ref (ad 5)), (1, .int x1)]) (Nat.le_of_ble_eq_true rfl) rfl (fun ls hl => ?_)
  unfold f_De_bytesOfNumber at h
  refine lv_iload_n hx hb d_De_bytesOfNumber_0 rfl (lv_at hl 1 rfl) ?_
  refine lv_bipush (v := (8 : Int32)) hx hb d_De_bytesOfNumber_1 (by decide) ?_
  refine lv_iand hx hb d_De_bytesOfNumber_3 ?_
  refine lv_if_eq (tgt := 9) hx hb d_De_bytesOfNumber_4 (by decide) (fun c1 => ?_) (fun c1 => ?_)
  · have h := ok_t h c1
    refine lv_iload_n hx hb d_De_bytesOfNumber_9 rfl (lv_at hl 1 rfl) ?_
    refine lv_bipush (v := (16 : Int32)) hx hb d_De_bytesOfNumber_10 (by decide) ?_
    refine lv_iand hx hb d_De_bytesOfNumber_12 ?_
    refine lv_if_eq (tgt := 18) hx hb d_De_bytesOfNumber_13 (by decide) (fun c2 => ?_) (fun c2 => ?_)
    · have h := ok_t h c2
      refine lv_iload_n hx hb d_De_bytesOfNumber_18 rfl (lv_at hl 1 rfl) ?_
      refine lv_bipush (v := (32 : Int32)) hx hb d_De_bytesOfNumber_19 (by decide) ?_
      refine lv_iand hx hb d_De_bytesOfNumber_21 ?_
      refine lv_if_eq (tgt := 27) hx hb d_De_bytesOfNumber_22 (by decide) (fun c3 => ?_) (fun c3 => ?_)
      · have h := ok_t h c3
        refine lv_iload_n hx hb d_De_bytesOfNumber_27 rfl (lv_at hl 1 rfl) ?_
        refine lv_bipush (v := (64 : Int32)) hx hb d_De_bytesOfNumber_28 (by decide) ?_
        refine lv_iand hx hb d_De_bytesOfNumber_30 ?_
        refine lv_if_eq (tgt := 39) hx hb d_De_bytesOfNumber_31 (by decide) (fun c4 => ?_) (fun c4 => ?_)
        · have h := ok_t h c4
          refine lv_aload_n hx hb d_De_bytesOfNumber_39 rfl (lv_at hl 0 rfl) ?_
          refine gfK_5_opcode C0 hw fl_De_23 d_De_bytesOfNumber_40 ?_
          refine lv_sipush (v := (246 : Int32)) hx hb d_De_bytesOfNumber_43 (by decide) ?_
          refine lv_icmp_eq (tgt := 59) hx hb d_De_bytesOfNumber_46 (by decide) (fun c5 => ?_) (fun c5 => ?_)
          · have h := ok_t h c5
            exact w_De_bytesOfNumber_59 o C0 q x1 h H locs ls hw (lv_sub hl [0, 1] rfl)
          · have h := ok_f h c5
            refine lv_aload_n hx hb d_De_bytesOfNumber_49 rfl (lv_at hl 0 rfl) ?_
            refine gfK_5_opcode C0 hw fl_De_23 d_De_bytesOfNumber_50 ?_
            refine lv_sipush (v := (247 : Int32)) hx hb d_De_bytesOfNumber_53 (by decide) ?_
            refine lv_icmp_ne (tgt := 70) hx hb d_De_bytesOfNumber_56 (by decide) (fun c13 => ?_) (fun c13 => ?_)
            · have h := ok_f h c13
              exact w_De_bytesOfNumber_70 o C0 q x1 h H locs ls hw (lv_sub hl [0, 1] rfl)
            · have h := ok_t h c13
              exact w_De_bytesOfNumber_59 o C0 q x1 h H locs ls hw (lv_sub hl [0, 1] rfl)
        · have h := ok_f h c4
          refine lv_aload_n hx hb d_De_bytesOfNumber_34 rfl (lv_at hl 0 rfl) ?_
          obtain ⟨r14, er14, h⟩ := ok_b h
          refine z_vi (rest := []) C0 hw (c_De_sizeV q r14 er14) mw_De_sizeV ml_De_100 5 rfl ⟨Nat.le_of_ble_eq_true rfl, Nat.le_of_ble_eq_true rfl⟩ ⟨Nat.le_refl 0, Nat.le_refl 0⟩ rfl hl.1 rfl (Nat.le_of_ble_eq_true rfl) d_De_bytesOfNumber_35 (fun H locs hw => ?_)
          have ho := Option.some.inj h
          subst ho
          exact z_rti C0 hw d_De_bytesOfNumber_38
      · have h := ok_f h c3
        refine lv_iconst (v := (4 : Int32)) hx hb d_De_bytesOfNumber_25 (by decide) ?_
        have ho := Option.some.inj h
        subst ho
        exact z_rti C0 hw d_De_bytesOfNumber_26
    · have h := ok_f h c2
      refine lv_iconst (v := (2 : Int32)) hx hb d_De_bytesOfNumber_16 (by decide) ?_
      have ho := Option.some.inj h
      subst ho
      exact z_rti C0 hw d_De_bytesOfNumber_17
  · have h := ok_f h c1
    refine lv_iconst (v := (1 : Int32)) hx hb d_De_bytesOfNumber_7 (by decide) ?_
    have ho := Option.some.inj h
    subst ho
    exact z_rti C0 hw d_De_bytesOfNumber_8
def f_Ar_signed (x0 : Int64) (x2 : Int32) (q : z_Sg) : Option Int64 :=
  z_nm (((64 : Int32) - ((8 : Int32) * x2))) (fun n1 => some (z_lshr (z_lshl x0 n1) n1))
set_option maxHeartbeats 4000000 in
set_option maxRecDepth 100000 in
theorem c_Ar_signed {l : Launch} {D : va_G} {ad : Nat → Nat} {ca : Nat → ClassId} (x0 : Int64) (x2 : Int32) (q : z_Sg) (o : Int64) (h : f_Ar_signed x0 x2 q = some o) : z_cl l y_Ar_signed b_Ar_signed 4 (some .long) 0 0 D (z_Kt ca) (z_K ad ca q) (z_K ad ca q) [.long x0, .int x2] o := by
  refine z_cl_of (own := z_RAr) (by decide) rfl ?_
  intro p e s m below meth c A C0 hw
  obtain ⟨hx, hb, hr, hlk, hml, hown, hts, hK, hA⟩ := id C0
  generalize hH : s.heap = H at hw ⊢
  generalize hlo : ([] : List Loc) = locs at hw ⊢
  refine z_entry (lv := [(0, .long x0), (2, .int x2)]) (Nat.le_of_ble_eq_true rfl) rfl (fun ls hl => ?_)
  unfold f_Ar_signed at h
  refine lv_bipush (v := (64 : Int32)) hx hb d_Ar_signed_0 (by decide) ?_
  refine lv_bipush (v := (8 : Int32)) hx hb d_Ar_signed_2 (by decide) ?_
  refine lv_iload_n hx hb d_Ar_signed_4 rfl (lv_at hl 1 rfl) ?_
  refine lv_imul hx hb d_Ar_signed_5 ?_
  refine lv_isub hx hb d_Ar_signed_6 ?_
  obtain ⟨n1, en1, h⟩ := ok_n h
  refine z_ti en1 ?_
  refine lv_istore_n (lv' := [(3, .int n1), (0, .long x0), (2, .int x2)]) hx hb d_Ar_signed_7 rfl hl (by decide) rfl (fun ls hl => ?_)
  refine lv_lload_n hx hb d_Ar_signed_8 rfl (lv_at hl 1 rfl) ?_
  refine lv_iload_n hx hb d_Ar_signed_9 rfl (lv_at hl 0 rfl) ?_
  refine lv_lshl (v := (z_lshl x0 n1)) hx hb d_Ar_signed_10 rfl ?_
  refine lv_iload_n hx hb d_Ar_signed_11 rfl (lv_at hl 0 rfl) ?_
  refine lv_lshr (v := (z_lshr (z_lshl x0 n1) n1)) hx hb d_Ar_signed_12 rfl ?_
  have ho := Option.some.inj h
  subst ho
  exact z_rtl C0 hw d_Ar_signed_13
def k_De_fetchNumber_65 (q : z_Sg) : Option (Int32 × z_Sg) :=
  some ((-1 : Int32), q)
def kb_De_fetchNumber_7 (ih7 : Int32 × Int32 × z_Sg → Option (Int32 × z_Sg)) (x1 : Int32) (x2 : Int32) (q : z_Sg) : Option (Int32 × z_Sg) :=
  if x1 ≤ x2 then (if x1 ≤ 0 then (k_De_fetchNumber_65 q) else ((f_Ar_signed (z_gL q 7) x1 q).bind (fun r4 => z_nm (z_sL q 7 r4) (fun q5 => k_De_fetchNumber_65 q5)))) else ((f_De_fetch q).bind (fun r6 => if r6.1 = (-1 : Int32) then (z_nm (z_sL r6.2 7 ((z_gL r6.2 7) ||| (z_lshl ((z_gI r6.2 4).toInt64) ((8 : Int32) * x2)))) (fun q8 => z_nm (x2 + (1 : Int32)) (fun n9 => ih7 (x1, n9, q8)))) else (some (r6.1, r6.2))))
def k_De_fetchNumber_7 (x1 : Int32) (x2 : Int32) (q : z_Sg) : Option (Int32 × z_Sg) := z_lo (fun ih7 a => kb_De_fetchNumber_7 ih7 a.1 a.2.1 a.2.2) 2000 (x1, x2, q)
def f_De_fetchNumber (x1 : Int32) (q : z_Sg) : Option (Int32 × z_Sg) :=
  z_nm (z_sL q 7 (0 : Int64)) (fun q1 => k_De_fetchNumber_7 x1 (0 : Int32) q1)
set_option maxHeartbeats 4000000 in
set_option maxRecDepth 100000 in
theorem w_De_fetchNumber_65 {p : Program} {l : Launch} {e : Env} {s : State} {m : MethodId} {args : Array Value} {below : List Frame} {meth : Method} {c : Code} {D : va_G} {A : Nat → Prop} {ad : Nat → Nat} {ca : Nat → ClassId} (o : (Int32 × z_Sg)) (C0 : z_cx z_RDe b_De_fetchNumber 4 (some .int) D (z_Kt ca) A p s m args meth c) (q : z_Sg) (h : k_De_fetchNumber_65 q = some o) : ∀ (H : Heap) (locs : List Loc) (ls : Array Slot), z_wd D (z_K ad ca q) A s H locs → lv_has ls 4 [] → W p l e (z_rm 3 83) s m args below meth c H locs 0 0 (z_qi below D (z_Kt ca) (z_K ad ca o.2) A s args o.1) (F0 m 65 ls []) := by
  obtain ⟨hx, hb, hr, hlk, hml, hown, hts, hK, hA⟩ := id C0
  intro H locs ls hw hl
  refine lv_iconst (v := (-1 : Int32)) hx hb d_De_fetchNumber_65 (by decide) ?_
  have ho := Option.some.inj h
  subst ho
  exact z_rti C0 hw d_De_fetchNumber_66
set_option maxHeartbeats 4000000 in
set_option maxRecDepth 100000 in
theorem wb_De_fetchNumber_7 {p : Program} {l : Launch} {e : Env} {s : State} {m : MethodId} {args : Array Value} {below : List Frame} {meth : Method} {c : Code} {D : va_G} {A : Nat → Prop} {ad : Nat → Nat} {ca : Nat → ClassId} (o : (Int32 × z_Sg)) (C0 : z_cx z_RDe b_De_fetchNumber 4 (some .int) D (z_Kt ca) A p s m args meth c) (q : z_Sg) (ih7 : Int32 × Int32 × z_Sg → Option (Int32 × z_Sg)) (hi7 : ∀ a : Int32 × Int32 × z_Sg, ih7 a = some o → ∀ (H : Heap) (locs : List Loc) (ls : Array Slot), z_wd D (z_K ad ca a.2.2) A s H locs → lv_has ls 4 [(0, .ref (ad 5)), (1, .int a.1), (2, .int a.2.1)] → W p l e (z_rm 3 83) s m args below meth c H locs 0 0 (z_qi below D (z_Kt ca) (z_K ad ca o.2) A s args o.1) (F0 m 7 ls [])) (x1 : Int32) (x2 : Int32) (h : kb_De_fetchNumber_7 ih7 x1 x2 q = some o) : ∀ (H : Heap) (locs : List Loc) (ls : Array Slot), z_wd D (z_K ad ca q) A s H locs → lv_has ls 4 [(0, .ref (ad 5)), (1, .int x1), (2, .int x2)] → W p l e (z_rm 3 83) s m args below meth c H locs 0 0 (z_qi below D (z_Kt ca) (z_K ad ca o.2) A s args o.1) (F0 m 7 ls []) := by
  obtain ⟨hx, hb, hr, hlk, hml, hown, hts, hK, hA⟩ := id C0
  intro H locs ls hw hl
  refine lv_iload_n hx hb d_De_fetchNumber_7 rfl (lv_at hl 2 rfl) ?_
  refine lv_iload_n hx hb d_De_fetchNumber_8 rfl (lv_at hl 1 rfl) ?_
  refine lv_icmp_ge (tgt := 49) hx hb d_De_fetchNumber_9 (by decide) (fun c2 => ?_) (fun c2 => ?_)
  · have h := ok_t h c2
    refine lv_iload_n hx hb d_De_fetchNumber_49 rfl (lv_at hl 1 rfl) ?_
    refine lv_if_le (tgt := 65) hx hb d_De_fetchNumber_50 (by decide) (fun c3 => ?_) (fun c3 => ?_)
    · have h := ok_t h c3
      exact w_De_fetchNumber_65 o C0 q h H locs ls hw (lv_sub hl [] rfl)
    · have h := ok_f h c3
      refine lv_aload_n hx hb d_De_fetchNumber_53 rfl (lv_at hl 0 rfl) ?_
      refine lv_aload_n hx hb d_De_fetchNumber_54 rfl (lv_at hl 0 rfl) ?_
      refine gfK_5_fetched C0 hw fl_De_53 d_De_fetchNumber_55 ?_
      refine lv_iload_n hx hb d_De_fetchNumber_58 rfl (lv_at hl 1 rfl) ?_
      obtain ⟨r4, er4, h⟩ := ok_b h
      refine z_sl (rest := [.ref (ad 5)]) C0 hw (c_Ar_signed (z_gL q 7) x1 q r4 er4) mw_Ar_signed ml_De_134 ⟨Nat.le_of_ble_eq_true rfl, Nat.le_of_ble_eq_true rfl⟩ ⟨Nat.le_refl 0, Nat.le_refl 0⟩ rfl hl.1 rfl (Nat.le_of_ble_eq_true rfl) d_De_fetchNumber_59 (fun H locs hw => ?_)
      refine pfK_5_fetched C0 hw fl_De_53 d_De_fetchNumber_62 (fun H locs hw => ?_)
      obtain ⟨q5, eq5, h⟩ := ok_n h
      rw [← eq5] at hw
      exact w_De_fetchNumber_65 o C0 q5 h H locs ls hw (lv_sub hl [] rfl)
  · have h := ok_f h c2
    refine lv_aload_n hx hb d_De_fetchNumber_12 rfl (lv_at hl 0 rfl) ?_
    obtain ⟨r6, er6, h⟩ := ok_b h
    refine z_vi (rest := []) C0 hw (c_De_fetch q r6 er6) mw_De_fetch ml_De_81 5 rfl ⟨Nat.le_of_ble_eq_true rfl, Nat.le_of_ble_eq_true rfl⟩ ⟨Nat.le_refl 0, Nat.le_refl 0⟩ rfl hl.1 rfl (Nat.le_of_ble_eq_true rfl) d_De_fetchNumber_13 (fun H locs hw => ?_)
    refine lv_istore_n (lv' := [(3, .int r6.1), (0, .ref (ad 5)), (1, .int x1), (2, .int x2)]) hx hb d_De_fetchNumber_16 rfl hl (by decide) rfl (fun ls hl => ?_)
    refine lv_iload_n hx hb d_De_fetchNumber_17 rfl (lv_at hl 0 rfl) ?_
    refine lv_iconst (v := (-1 : Int32)) hx hb d_De_fetchNumber_18 (by decide) ?_
    refine lv_icmp_eq (tgt := 24) hx hb d_De_fetchNumber_19 (by decide) (fun c7 => ?_) (fun c7 => ?_)
    · have h := ok_t h c7
      refine lv_aload_n hx hb d_De_fetchNumber_24 rfl (lv_at hl 1 rfl) ?_
      refine lv_dup hx hb d_De_fetchNumber_25 rfl ?_
      refine gfK_5_fetched C0 hw fl_De_53 d_De_fetchNumber_26 ?_
      refine lv_aload_n hx hb d_De_fetchNumber_29 rfl (lv_at hl 1 rfl) ?_
      refine gfK_5_last C0 hw fl_De_84 d_De_fetchNumber_30 ?_
      refine lv_i2l hx hb d_De_fetchNumber_33 rfl ?_
      refine lv_bipush (v := (8 : Int32)) hx hb d_De_fetchNumber_34 (by decide) ?_
      refine lv_iload_n hx hb d_De_fetchNumber_36 rfl (lv_at hl 3 rfl) ?_
      refine lv_imul hx hb d_De_fetchNumber_37 ?_
      refine lv_lshl (v := (z_lshl ((z_gI r6.2 4).toInt64) ((8 : Int32) * x2))) hx hb d_De_fetchNumber_38 rfl ?_
      refine lv_lor hx hb d_De_fetchNumber_39 ?_
      refine pfK_5_fetched C0 hw fl_De_53 d_De_fetchNumber_40 (fun H locs hw => ?_)
      obtain ⟨q8, eq8, h⟩ := ok_n h
      rw [← eq8] at hw
      obtain ⟨n9, en9, h⟩ := ok_n h
      refine lv_iinc (v := n9) (lv' := [(2, .int n9), (3, .int r6.1), (0, .ref (ad 5)), (1, .int x1)]) hx hb d_De_fetchNumber_43 hl (k := 3) rfl (by rw [en9]; rfl) (by decide) rfl (fun ls hl => ?_)
      refine lv_goto (tgt := 7) hx hb d_De_fetchNumber_46 (by decide) ?_
      exact hi7 (x1, n9, q8) h H locs ls hw (lv_sub hl [2, 3, 0] rfl)
    · have h := ok_f h c7
      refine lv_iload_n hx hb d_De_fetchNumber_22 rfl (lv_at hl 0 rfl) ?_
      have ho := Option.some.inj h
      subst ho
      exact z_rti C0 hw d_De_fetchNumber_23
theorem w_De_fetchNumber_7 {p : Program} {l : Launch} {e : Env} {s : State} {m : MethodId} {args : Array Value} {below : List Frame} {meth : Method} {c : Code} {D : va_G} {A : Nat → Prop} {ad : Nat → Nat} {ca : Nat → ClassId} (o : (Int32 × z_Sg)) (C0 : z_cx z_RDe b_De_fetchNumber 4 (some .int) D (z_Kt ca) A p s m args meth c) (q : z_Sg) (x1 : Int32) (x2 : Int32) (h : k_De_fetchNumber_7 x1 x2 q = some o) : ∀ (H : Heap) (locs : List Loc) (ls : Array Slot), z_wd D (z_K ad ca q) A s H locs → lv_has ls 4 [(0, .ref (ad 5)), (1, .int x1), (2, .int x2)] → W p l e (z_rm 3 83) s m args below meth c H locs 0 0 (z_qi below D (z_Kt ca) (z_K ad ca o.2) A s args o.1) (F0 m 7 ls []) := by
  have key : ∀ (n : Nat) (a : Int32 × Int32 × z_Sg), z_lo (fun ih7 a => kb_De_fetchNumber_7 ih7 a.1 a.2.1 a.2.2) n a = some o → ∀ (H : Heap) (locs : List Loc) (ls : Array Slot), z_wd D (z_K ad ca a.2.2) A s H locs → lv_has ls 4 [(0, .ref (ad 5)), (1, .int a.1), (2, .int a.2.1)] → W p l e (z_rm 3 83) s m args below meth c H locs 0 0 (z_qi below D (z_Kt ca) (z_K ad ca o.2) A s args o.1) (F0 m 7 ls []) := by
    intro n
    induction n with
    | zero => intro a h; cases h
    | succ n ih => exact fun a h => wb_De_fetchNumber_7 o C0 a.2.2 (z_lo (fun ih7 a => kb_De_fetchNumber_7 ih7 a.1 a.2.1 a.2.2) n) ih a.1 a.2.1 h
  exact key 2000 (x1, x2, q) h
set_option maxHeartbeats 4000000 in
set_option maxRecDepth 100000 in
theorem c_De_fetchNumber {l : Launch} {D : va_G} {ad : Nat → Nat} {ca : Nat → ClassId} (x1 : Int32) (q : z_Sg) (o : (Int32 × z_Sg)) (h : f_De_fetchNumber x1 q = some o) : z_ci l y_De_fetchNumber b_De_fetchNumber 4 (some .int) 3 83 D (z_Kt ca) (z_K ad ca q) (z_K ad ca o.2) [.ref (ad 5), .int x1] o.1 := by
  refine z_ci_of (own := z_RDe) (by decide) rfl ?_
  intro p e s m below meth c A C0 hw
  obtain ⟨hx, hb, hr, hlk, hml, hown, hts, hK, hA⟩ := id C0
  generalize hH : s.heap = H at hw ⊢
  generalize hlo : ([] : List Loc) = locs at hw ⊢
  refine z_entry (lv := [(0, .ref (ad 5)), (1, .int x1)]) (Nat.le_of_ble_eq_true rfl) rfl (fun ls hl => ?_)
  unfold f_De_fetchNumber at h
  refine lv_aload_n hx hb d_De_fetchNumber_0 rfl (lv_at hl 0 rfl) ?_
  refine lv_lconst (v := (0 : Int64)) hx hb d_De_fetchNumber_1 (by decide) ?_
  refine pfK_5_fetched C0 hw fl_De_53 d_De_fetchNumber_2 (fun H locs hw => ?_)
  obtain ⟨q1, eq1, h⟩ := ok_n h
  rw [← eq1] at hw
  refine lv_iconst (v := (0 : Int32)) hx hb d_De_fetchNumber_5 (by decide) ?_
  refine lv_istore_n (lv' := [(2, .int (0 : Int32)), (0, .ref (ad 5)), (1, .int x1)]) hx hb d_De_fetchNumber_6 rfl hl (by decide) rfl (fun ls hl => ?_)
  exact w_De_fetchNumber_7 o C0 q1 x1 (0 : Int32) h H locs ls hw (lv_sub hl [1, 2, 0] rfl)
def k_De_extension_15 (t0 : Int32) (q : z_Sg) : Option Int32 :=
  some t0
def f_De_extension (x1 : Int32) (q : z_Sg) : Option Int32 :=
  if ((z_gI q 6) &&& x1) = 0 then (k_De_extension_15 (0 : Int32) q) else (k_De_extension_15 (8 : Int32) q)
set_option maxHeartbeats 4000000 in
set_option maxRecDepth 100000 in
theorem w_De_extension_15 {p : Program} {l : Launch} {e : Env} {s : State} {m : MethodId} {args : Array Value} {below : List Frame} {meth : Method} {c : Code} {D : va_G} {A : Nat → Prop} {ad : Nat → Nat} {ca : Nat → ClassId} (o : Int32) (C0 : z_cx z_RDe b_De_extension 2 (some .int) D (z_Kt ca) A p s m args meth c) (q : z_Sg) (t0 : Int32) (h : k_De_extension_15 t0 q = some o) : ∀ (H : Heap) (locs : List Loc) (ls : Array Slot), z_wd D (z_K ad ca q) A s H locs → lv_has ls 2 [] → W p l e (z_rm 0 0) s m args below meth c H locs 0 0 (z_qi below D (z_Kt ca) (z_K ad ca q) A s args o) (F0 m 15 ls [.int t0]) := by
  obtain ⟨hx, hb, hr, hlk, hml, hown, hts, hK, hA⟩ := id C0
  intro H locs ls hw hl
  have ho := Option.some.inj h
  subst ho
  exact z_rti C0 hw d_De_extension_15
set_option maxHeartbeats 4000000 in
set_option maxRecDepth 100000 in
theorem c_De_extension {l : Launch} {D : va_G} {ad : Nat → Nat} {ca : Nat → ClassId} (x1 : Int32) (q : z_Sg) (o : Int32) (h : f_De_extension x1 q = some o) : z_ci l y_De_extension b_De_extension 2 (some .int) 0 0 D (z_Kt ca) (z_K ad ca q) (z_K ad ca q) [.ref (ad 5), .int x1] o := by
  refine z_ci_of (own := z_RDe) (by decide) rfl ?_
  intro p e s m below meth c A C0 hw
  obtain ⟨hx, hb, hr, hlk, hml, hown, hts, hK, hA⟩ := id C0
  generalize hH : s.heap = H at hw ⊢
  generalize hlo : ([] : List Loc) = locs at hw ⊢
  refine z_entry (lv := [(0, .ref (ad 5)), (1, .int x1)]) (Nat.le_of_ble_eq_true rfl) rfl (fun ls hl => ?_)
  unfold f_De_extension at h
  refine lv_aload_n hx hb d_De_extension_0 rfl (lv_at hl 0 rfl) ?_
  refine gfK_5_rex C0 hw fl_De_78 d_De_extension_1 ?_
  refine lv_iload_n hx hb d_De_extension_4 rfl (lv_at hl 1 rfl) ?_
  refine lv_iand hx hb d_De_extension_5 ?_
  refine lv_if_eq (tgt := 14) hx hb d_De_extension_6 (by decide) (fun c1 => ?_) (fun c1 => ?_)
  · have h := ok_t h c1
    refine lv_iconst (v := (0 : Int32)) hx hb d_De_extension_14 (by decide) ?_
    exact w_De_extension_15 o C0 q (0 : Int32) h H locs ls hw (lv_sub hl [] rfl)
  · have h := ok_f h c1
    refine lv_bipush (v := (8 : Int32)) hx hb d_De_extension_9 (by decide) ?_
    refine lv_goto (tgt := 15) hx hb d_De_extension_11 (by decide) ?_
    exact w_De_extension_15 o C0 q (8 : Int32) h H locs ls hw (lv_sub hl [] rfl)
def k_De_fetchPlace_174 (x1 : Int32) (q : z_Sg) : Option (Int32 × z_Sg) :=
  (f_De_fetchNumber x1 q).bind (fun r9 => z_nm (z_sL r9.2 8 (z_gL r9.2 7)) (fun q10 => some (r9.1, q10)))
def k_De_fetchPlace_169 (t1 : Int32) (q : z_Sg) : Option (Int32 × z_Sg) :=
  z_nm (z_sI q 7 t1) (fun q13 => k_De_fetchPlace_174 (4 : Int32) q13)
def k_De_fetchPlace_135 (t0 : Int32) (q : z_Sg) : Option (Int32 × z_Sg) :=
  if (z_gI q 12) = 0 then (if ((z_gI q 7) &&& (7 : Int32)) = (5 : Int32) then (if (z_gI q 14) = (4 : Int32) then (k_De_fetchPlace_169 (-1 : Int32) q) else (k_De_fetchPlace_169 (-2 : Int32) q)) else (k_De_fetchPlace_174 t0 q)) else (k_De_fetchPlace_174 t0 q)
def k_De_fetchPlace_111 (q : z_Sg) : Option (Int32 × z_Sg) :=
  if (z_gI q 12) = 0 then (k_De_fetchPlace_135 (0 : Int32) q) else (if (z_gI q 12) = (1 : Int32) then (k_De_fetchPlace_135 (1 : Int32) q) else (k_De_fetchPlace_135 (4 : Int32) q))
def k_De_fetchPlace_97 (t1 : Int32) (q : z_Sg) : Option (Int32 × z_Sg) :=
  z_nm (z_sI q 8 t1) (fun q21 => z_nm (z_sI q21 9 ((z_gI q21 4) >>> ((6 : Int32) &&& 31))) (fun q22 => k_De_fetchPlace_111 q22))
def f_De_fetchPlace (q : z_Sg) : Option (Int32 × z_Sg) :=
  (f_De_extension (1 : Int32) q).bind (fun r1 => z_nm (z_sI q 7 ((z_gI q 14) ||| r1)) (fun q2 => z_nm (z_sI q2 8 (-1 : Int32)) (fun q3 => z_nm (z_sI q3 9 (0 : Int32)) (fun q4 => if (z_gI q4 14) = (4 : Int32) then ((f_De_fetch q4).bind (fun r14 => if r14.1 = (-1 : Int32) then ((f_De_extension (1 : Int32) r14.2).bind (fun r16 => z_nm (z_sI r14.2 7 (((z_gI r14.2 4) &&& (7 : Int32)) ||| r16)) (fun q17 => (f_De_extension (2 : Int32) q17).bind (fun r18 => z_nm (z_sI q17 8 ((((z_gI q17 4) >>> ((3 : Int32) &&& 31)) &&& (7 : Int32)) ||| r18)) (fun q19 => if (z_gI q19 8) = (4 : Int32) then (k_De_fetchPlace_97 (-1 : Int32) q19) else (k_De_fetchPlace_97 (z_gI q19 8) q19)))))) else (some (r14.1, r14.2)))) else (k_De_fetchPlace_111 q4)))))
set_option maxHeartbeats 4000000 in
set_option maxRecDepth 100000 in
theorem w_De_fetchPlace_174 {p : Program} {l : Launch} {e : Env} {s : State} {m : MethodId} {args : Array Value} {below : List Frame} {meth : Method} {c : Code} {D : va_G} {A : Nat → Prop} {ad : Nat → Nat} {ca : Nat → ClassId} (o : (Int32 × z_Sg)) (C0 : z_cx z_RDe b_De_fetchPlace 3 (some .int) D (z_Kt ca) A p s m args meth c) (q : z_Sg) (x1 : Int32) (h : k_De_fetchPlace_174 x1 q = some o) : ∀ (H : Heap) (locs : List Loc) (ls : Array Slot), z_wd D (z_K ad ca q) A s H locs → lv_has ls 3 [(0, .ref (ad 5)), (1, .int x1)] → W p l e (z_rm 4 106) s m args below meth c H locs 0 0 (z_qi below D (z_Kt ca) (z_K ad ca o.2) A s args o.1) (F0 m 174 ls []) := by
  obtain ⟨hx, hb, hr, hlk, hml, hown, hts, hK, hA⟩ := id C0
  intro H locs ls hw hl
  refine lv_aload_n hx hb d_De_fetchPlace_174 rfl (lv_at hl 0 rfl) ?_
  refine lv_iload_n hx hb d_De_fetchPlace_175 rfl (lv_at hl 1 rfl) ?_
  obtain ⟨r9, er9, h⟩ := ok_b h
  refine z_vi (rest := []) C0 hw (c_De_fetchNumber x1 q r9 er9) mw_De_fetchNumber ml_De_50 5 rfl ⟨Nat.le_of_ble_eq_true rfl, Nat.le_of_ble_eq_true rfl⟩ ⟨Nat.le_refl 0, Nat.le_refl 0⟩ rfl hl.1 rfl (Nat.le_of_ble_eq_true rfl) d_De_fetchPlace_176 (fun H locs hw => ?_)
  refine lv_istore_n (lv' := [(2, .int r9.1), (0, .ref (ad 5)), (1, .int x1)]) hx hb d_De_fetchPlace_179 rfl hl (by decide) rfl (fun ls hl => ?_)
  refine lv_aload_n hx hb d_De_fetchPlace_180 rfl (lv_at hl 1 rfl) ?_
  refine lv_aload_n hx hb d_De_fetchPlace_181 rfl (lv_at hl 1 rfl) ?_
  refine gfK_5_fetched C0 hw fl_De_53 d_De_fetchPlace_182 ?_
  refine pfK_5_displacement C0 hw fl_De_125 d_De_fetchPlace_185 (fun H locs hw => ?_)
  obtain ⟨q10, eq10, h⟩ := ok_n h
  rw [← eq10] at hw
  refine lv_iload_n hx hb d_De_fetchPlace_188 rfl (lv_at hl 0 rfl) ?_
  have ho := Option.some.inj h
  subst ho
  exact z_rti C0 hw d_De_fetchPlace_189
set_option maxHeartbeats 4000000 in
set_option maxRecDepth 100000 in
theorem w_De_fetchPlace_169 {p : Program} {l : Launch} {e : Env} {s : State} {m : MethodId} {args : Array Value} {below : List Frame} {meth : Method} {c : Code} {D : va_G} {A : Nat → Prop} {ad : Nat → Nat} {ca : Nat → ClassId} (o : (Int32 × z_Sg)) (C0 : z_cx z_RDe b_De_fetchPlace 3 (some .int) D (z_Kt ca) A p s m args meth c) (q : z_Sg) (t1 : Int32) (h : k_De_fetchPlace_169 t1 q = some o) : ∀ (H : Heap) (locs : List Loc) (ls : Array Slot), z_wd D (z_K ad ca q) A s H locs → lv_has ls 3 [(0, .ref (ad 5))] → W p l e (z_rm 4 106) s m args below meth c H locs 0 0 (z_qi below D (z_Kt ca) (z_K ad ca o.2) A s args o.1) (F0 m 169 ls [.int t1, .ref (ad 5)]) := by
  obtain ⟨hx, hb, hr, hlk, hml, hown, hts, hK, hA⟩ := id C0
  intro H locs ls hw hl
  refine pfK_5_base C0 hw fl_De_116 d_De_fetchPlace_169 (fun H locs hw => ?_)
  obtain ⟨q13, eq13, h⟩ := ok_n h
  rw [← eq13] at hw
  refine lv_iconst (v := (4 : Int32)) hx hb d_De_fetchPlace_172 (by decide) ?_
  refine lv_istore_n (lv' := [(1, .int (4 : Int32)), (0, .ref (ad 5))]) hx hb d_De_fetchPlace_173 rfl hl (by decide) rfl (fun ls hl => ?_)
  exact w_De_fetchPlace_174 o C0 q13 (4 : Int32) h H locs ls hw (lv_sub hl [1, 0] rfl)
set_option maxHeartbeats 4000000 in
set_option maxRecDepth 100000 in
theorem w_De_fetchPlace_135 {p : Program} {l : Launch} {e : Env} {s : State} {m : MethodId} {args : Array Value} {below : List Frame} {meth : Method} {c : Code} {D : va_G} {A : Nat → Prop} {ad : Nat → Nat} {ca : Nat → ClassId} (o : (Int32 × z_Sg)) (C0 : z_cx z_RDe b_De_fetchPlace 3 (some .int) D (z_Kt ca) A p s m args meth c) (q : z_Sg) (t0 : Int32) (h : k_De_fetchPlace_135 t0 q = some o) : ∀ (H : Heap) (locs : List Loc) (ls : Array Slot), z_wd D (z_K ad ca q) A s H locs → lv_has ls 3 [(0, .ref (ad 5))] → W p l e (z_rm 4 106) s m args below meth c H locs 0 0 (z_qi below D (z_Kt ca) (z_K ad ca o.2) A s args o.1) (F0 m 135 ls [.int t0]) := by
  obtain ⟨hx, hb, hr, hlk, hml, hown, hts, hK, hA⟩ := id C0
  intro H locs ls hw hl
  refine lv_istore_n (lv' := [(1, .int t0), (0, .ref (ad 5))]) hx hb d_De_fetchPlace_135 rfl hl (by decide) rfl (fun ls hl => ?_)
  refine lv_aload_n hx hb d_De_fetchPlace_136 rfl (lv_at hl 1 rfl) ?_
  refine gfK_5_mod C0 hw fl_De_38 d_De_fetchPlace_137 ?_
  refine lv_if_ne (tgt := 174) hx hb d_De_fetchPlace_140 (by decide) (fun c8 => ?_) (fun c8 => ?_)
  · have h := ok_f h c8
    exact w_De_fetchPlace_174 o C0 q t0 h H locs ls hw (lv_sub hl [1, 0] rfl)
  · have h := ok_t h c8
    refine lv_aload_n hx hb d_De_fetchPlace_143 rfl (lv_at hl 1 rfl) ?_
    refine gfK_5_base C0 hw fl_De_116 d_De_fetchPlace_144 ?_
    refine lv_bipush (v := (7 : Int32)) hx hb d_De_fetchPlace_147 (by decide) ?_
    refine lv_iand hx hb d_De_fetchPlace_149 ?_
    refine lv_iconst (v := (5 : Int32)) hx hb d_De_fetchPlace_150 (by decide) ?_
    refine lv_icmp_ne (tgt := 174) hx hb d_De_fetchPlace_151 (by decide) (fun c11 => ?_) (fun c11 => ?_)
    · have h := ok_f h c11
      exact w_De_fetchPlace_174 o C0 q t0 h H locs ls hw (lv_sub hl [1, 0] rfl)
    · have h := ok_t h c11
      refine lv_aload_n hx hb d_De_fetchPlace_154 rfl (lv_at hl 1 rfl) ?_
      refine lv_aload_n hx hb d_De_fetchPlace_155 rfl (lv_at hl 1 rfl) ?_
      refine gfK_5_rm C0 hw fl_De_106 d_De_fetchPlace_156 ?_
      refine lv_iconst (v := (4 : Int32)) hx hb d_De_fetchPlace_159 (by decide) ?_
      refine lv_icmp_ne (tgt := 167) hx hb d_De_fetchPlace_160 (by decide) (fun c12 => ?_) (fun c12 => ?_)
      · have h := ok_f h c12
        refine lv_bipush (v := (-2 : Int32)) hx hb d_De_fetchPlace_167 (by decide) ?_
        exact w_De_fetchPlace_169 o C0 q (-2 : Int32) h H locs ls hw (lv_sub hl [1] rfl)
      · have h := ok_t h c12
        refine lv_iconst (v := (-1 : Int32)) hx hb d_De_fetchPlace_163 (by decide) ?_
        refine lv_goto (tgt := 169) hx hb d_De_fetchPlace_164 (by decide) ?_
        exact w_De_fetchPlace_169 o C0 q (-1 : Int32) h H locs ls hw (lv_sub hl [1] rfl)
set_option maxHeartbeats 4000000 in
set_option maxRecDepth 100000 in
theorem w_De_fetchPlace_111 {p : Program} {l : Launch} {e : Env} {s : State} {m : MethodId} {args : Array Value} {below : List Frame} {meth : Method} {c : Code} {D : va_G} {A : Nat → Prop} {ad : Nat → Nat} {ca : Nat → ClassId} (o : (Int32 × z_Sg)) (C0 : z_cx z_RDe b_De_fetchPlace 3 (some .int) D (z_Kt ca) A p s m args meth c) (q : z_Sg) (h : k_De_fetchPlace_111 q = some o) : ∀ (H : Heap) (locs : List Loc) (ls : Array Slot), z_wd D (z_K ad ca q) A s H locs → lv_has ls 3 [(0, .ref (ad 5))] → W p l e (z_rm 4 106) s m args below meth c H locs 0 0 (z_qi below D (z_Kt ca) (z_K ad ca o.2) A s args o.1) (F0 m 111 ls []) := by
  obtain ⟨hx, hb, hr, hlk, hml, hown, hts, hK, hA⟩ := id C0
  intro H locs ls hw hl
  refine lv_aload_n hx hb d_De_fetchPlace_111 rfl (lv_at hl 0 rfl) ?_
  refine gfK_5_mod C0 hw fl_De_38 d_De_fetchPlace_112 ?_
  refine lv_if_ne (tgt := 122) hx hb d_De_fetchPlace_115 (by decide) (fun c6 => ?_) (fun c6 => ?_)
  · have h := ok_f h c6
    refine lv_aload_n hx hb d_De_fetchPlace_122 rfl (lv_at hl 0 rfl) ?_
    refine gfK_5_mod C0 hw fl_De_38 d_De_fetchPlace_123 ?_
    refine lv_iconst (v := (1 : Int32)) hx hb d_De_fetchPlace_126 (by decide) ?_
    refine lv_icmp_ne (tgt := 134) hx hb d_De_fetchPlace_127 (by decide) (fun c7 => ?_) (fun c7 => ?_)
    · have h := ok_f h c7
      refine lv_iconst (v := (4 : Int32)) hx hb d_De_fetchPlace_134 (by decide) ?_
      exact w_De_fetchPlace_135 o C0 q (4 : Int32) h H locs ls hw (lv_sub hl [0] rfl)
    · have h := ok_t h c7
      refine lv_iconst (v := (1 : Int32)) hx hb d_De_fetchPlace_130 (by decide) ?_
      refine lv_goto (tgt := 135) hx hb d_De_fetchPlace_131 (by decide) ?_
      exact w_De_fetchPlace_135 o C0 q (1 : Int32) h H locs ls hw (lv_sub hl [0] rfl)
  · have h := ok_t h c6
    refine lv_iconst (v := (0 : Int32)) hx hb d_De_fetchPlace_118 (by decide) ?_
    refine lv_goto (tgt := 135) hx hb d_De_fetchPlace_119 (by decide) ?_
    exact w_De_fetchPlace_135 o C0 q (0 : Int32) h H locs ls hw (lv_sub hl [0] rfl)
set_option maxHeartbeats 4000000 in
set_option maxRecDepth 100000 in
theorem w_De_fetchPlace_97 {p : Program} {l : Launch} {e : Env} {s : State} {m : MethodId} {args : Array Value} {below : List Frame} {meth : Method} {c : Code} {D : va_G} {A : Nat → Prop} {ad : Nat → Nat} {ca : Nat → ClassId} (o : (Int32 × z_Sg)) (C0 : z_cx z_RDe b_De_fetchPlace 3 (some .int) D (z_Kt ca) A p s m args meth c) (q : z_Sg) (t1 : Int32) (h : k_De_fetchPlace_97 t1 q = some o) : ∀ (H : Heap) (locs : List Loc) (ls : Array Slot), z_wd D (z_K ad ca q) A s H locs → lv_has ls 3 [(0, .ref (ad 5))] → W p l e (z_rm 4 106) s m args below meth c H locs 0 0 (z_qi below D (z_Kt ca) (z_K ad ca o.2) A s args o.1) (F0 m 97 ls [.int t1, .ref (ad 5)]) := by
  obtain ⟨hx, hb, hr, hlk, hml, hown, hts, hK, hA⟩ := id C0
  intro H locs ls hw hl
  refine pfK_5_index C0 hw fl_De_119 d_De_fetchPlace_97 (fun H locs hw => ?_)
  obtain ⟨q21, eq21, h⟩ := ok_n h
  rw [← eq21] at hw
  refine lv_aload_n hx hb d_De_fetchPlace_100 rfl (lv_at hl 0 rfl) ?_
  refine lv_aload_n hx hb d_De_fetchPlace_101 rfl (lv_at hl 0 rfl) ?_
  refine gfK_5_last C0 hw fl_De_84 d_De_fetchPlace_102 ?_
  refine lv_bipush (v := (6 : Int32)) hx hb d_De_fetchPlace_105 (by decide) ?_
  refine lv_ishr hx hb d_De_fetchPlace_107 ?_
  refine pfK_5_scale C0 hw fl_De_122 d_De_fetchPlace_108 (fun H locs hw => ?_)
  obtain ⟨q22, eq22, h⟩ := ok_n h
  rw [← eq22] at hw
  exact w_De_fetchPlace_111 o C0 q22 h H locs ls hw (lv_sub hl [0] rfl)
set_option maxHeartbeats 4000000 in
set_option maxRecDepth 100000 in
theorem c_De_fetchPlace {l : Launch} {D : va_G} {ad : Nat → Nat} {ca : Nat → ClassId} (q : z_Sg) (o : (Int32 × z_Sg)) (h : f_De_fetchPlace q = some o) : z_ci l y_De_fetchPlace b_De_fetchPlace 3 (some .int) 4 106 D (z_Kt ca) (z_K ad ca q) (z_K ad ca o.2) [.ref (ad 5)] o.1 := by
  refine z_ci_of (own := z_RDe) (by decide) rfl ?_
  intro p e s m below meth c A C0 hw
  obtain ⟨hx, hb, hr, hlk, hml, hown, hts, hK, hA⟩ := id C0
  generalize hH : s.heap = H at hw ⊢
  generalize hlo : ([] : List Loc) = locs at hw ⊢
  refine z_entry (lv := [(0, .ref (ad 5))]) (Nat.le_of_ble_eq_true rfl) rfl (fun ls hl => ?_)
  unfold f_De_fetchPlace at h
  refine lv_aload_n hx hb d_De_fetchPlace_0 rfl (lv_at hl 0 rfl) ?_
  refine lv_aload_n hx hb d_De_fetchPlace_1 rfl (lv_at hl 0 rfl) ?_
  refine gfK_5_rm C0 hw fl_De_106 d_De_fetchPlace_2 ?_
  refine lv_aload_n hx hb d_De_fetchPlace_5 rfl (lv_at hl 0 rfl) ?_
  refine lv_iconst (v := (1 : Int32)) hx hb d_De_fetchPlace_6 (by decide) ?_
  obtain ⟨r1, er1, h⟩ := ok_b h
  refine z_vi (rest := [.int (z_gI q 14), .ref (ad 5)]) C0 hw (c_De_extension (1 : Int32) q r1 er1) mw_De_extension ml_De_113 5 rfl ⟨Nat.le_of_ble_eq_true rfl, Nat.le_of_ble_eq_true rfl⟩ ⟨Nat.le_refl 0, Nat.le_refl 0⟩ rfl hl.1 rfl (Nat.le_of_ble_eq_true rfl) d_De_fetchPlace_7 (fun H locs hw => ?_)
  refine lv_ior hx hb d_De_fetchPlace_10 ?_
  refine pfK_5_base C0 hw fl_De_116 d_De_fetchPlace_11 (fun H locs hw => ?_)
  obtain ⟨q2, eq2, h⟩ := ok_n h
  rw [← eq2] at hw
  refine lv_aload_n hx hb d_De_fetchPlace_14 rfl (lv_at hl 0 rfl) ?_
  refine lv_iconst (v := (-1 : Int32)) hx hb d_De_fetchPlace_15 (by decide) ?_
  refine pfK_5_index C0 hw fl_De_119 d_De_fetchPlace_16 (fun H locs hw => ?_)
  obtain ⟨q3, eq3, h⟩ := ok_n h
  rw [← eq3] at hw
  refine lv_aload_n hx hb d_De_fetchPlace_19 rfl (lv_at hl 0 rfl) ?_
  refine lv_iconst (v := (0 : Int32)) hx hb d_De_fetchPlace_20 (by decide) ?_
  refine pfK_5_scale C0 hw fl_De_122 d_De_fetchPlace_21 (fun H locs hw => ?_)
  obtain ⟨q4, eq4, h⟩ := ok_n h
  rw [← eq4] at hw
  refine lv_aload_n hx hb d_De_fetchPlace_24 rfl (lv_at hl 0 rfl) ?_
  refine gfK_5_rm C0 hw fl_De_106 d_De_fetchPlace_25 ?_
  refine lv_iconst (v := (4 : Int32)) hx hb d_De_fetchPlace_28 (by decide) ?_
  refine lv_icmp_ne (tgt := 111) hx hb d_De_fetchPlace_29 (by decide) (fun c5 => ?_) (fun c5 => ?_)
  · have h := ok_f h c5
    exact w_De_fetchPlace_111 o C0 q4 h H locs ls hw (lv_sub hl [0] rfl)
  · have h := ok_t h c5
    refine lv_aload_n hx hb d_De_fetchPlace_32 rfl (lv_at hl 0 rfl) ?_
    obtain ⟨r14, er14, h⟩ := ok_b h
    refine z_vi (rest := []) C0 hw (c_De_fetch q4 r14 er14) mw_De_fetch ml_De_81 5 rfl ⟨Nat.le_of_ble_eq_true rfl, Nat.le_of_ble_eq_true rfl⟩ ⟨Nat.le_refl 0, Nat.le_refl 0⟩ rfl hl.1 rfl (Nat.le_of_ble_eq_true rfl) d_De_fetchPlace_33 (fun H locs hw => ?_)
    refine lv_istore_n (lv' := [(1, .int r14.1), (0, .ref (ad 5))]) hx hb d_De_fetchPlace_36 rfl hl (by decide) rfl (fun ls hl => ?_)
    refine lv_iload_n hx hb d_De_fetchPlace_37 rfl (lv_at hl 0 rfl) ?_
    refine lv_iconst (v := (-1 : Int32)) hx hb d_De_fetchPlace_38 (by decide) ?_
    refine lv_icmp_eq (tgt := 44) hx hb d_De_fetchPlace_39 (by decide) (fun c15 => ?_) (fun c15 => ?_)
    · have h := ok_t h c15
      refine lv_aload_n hx hb d_De_fetchPlace_44 rfl (lv_at hl 1 rfl) ?_
      refine lv_aload_n hx hb d_De_fetchPlace_45 rfl (lv_at hl 1 rfl) ?_
      refine gfK_5_last C0 hw fl_De_84 d_De_fetchPlace_46 ?_
      refine lv_bipush (v := (7 : Int32)) hx hb d_De_fetchPlace_49 (by decide) ?_
      refine lv_iand hx hb d_De_fetchPlace_51 ?_
      refine lv_aload_n hx hb d_De_fetchPlace_52 rfl (lv_at hl 1 rfl) ?_
      refine lv_iconst (v := (1 : Int32)) hx hb d_De_fetchPlace_53 (by decide) ?_
      obtain ⟨r16, er16, h⟩ := ok_b h
      refine z_vi (rest := [.int ((z_gI r14.2 4) &&& (7 : Int32)), .ref (ad 5)]) C0 hw (c_De_extension (1 : Int32) r14.2 r16 er16) mw_De_extension ml_De_113 5 rfl ⟨Nat.le_of_ble_eq_true rfl, Nat.le_of_ble_eq_true rfl⟩ ⟨Nat.le_refl 0, Nat.le_refl 0⟩ rfl hl.1 rfl (Nat.le_of_ble_eq_true rfl) d_De_fetchPlace_54 (fun H locs hw => ?_)
      refine lv_ior hx hb d_De_fetchPlace_57 ?_
      refine pfK_5_base C0 hw fl_De_116 d_De_fetchPlace_58 (fun H locs hw => ?_)
      obtain ⟨q17, eq17, h⟩ := ok_n h
      rw [← eq17] at hw
      refine lv_aload_n hx hb d_De_fetchPlace_61 rfl (lv_at hl 1 rfl) ?_
      refine lv_aload_n hx hb d_De_fetchPlace_62 rfl (lv_at hl 1 rfl) ?_
      refine gfK_5_last C0 hw fl_De_84 d_De_fetchPlace_63 ?_
      refine lv_iconst (v := (3 : Int32)) hx hb d_De_fetchPlace_66 (by decide) ?_
      refine lv_ishr hx hb d_De_fetchPlace_67 ?_
      refine lv_bipush (v := (7 : Int32)) hx hb d_De_fetchPlace_68 (by decide) ?_
      refine lv_iand hx hb d_De_fetchPlace_70 ?_
      refine lv_aload_n hx hb d_De_fetchPlace_71 rfl (lv_at hl 1 rfl) ?_
      refine lv_iconst (v := (2 : Int32)) hx hb d_De_fetchPlace_72 (by decide) ?_
      obtain ⟨r18, er18, h⟩ := ok_b h
      refine z_vi (rest := [.int (((z_gI q17 4) >>> ((3 : Int32) &&& 31)) &&& (7 : Int32)), .ref (ad 5)]) C0 hw (c_De_extension (2 : Int32) q17 r18 er18) mw_De_extension ml_De_113 5 rfl ⟨Nat.le_of_ble_eq_true rfl, Nat.le_of_ble_eq_true rfl⟩ ⟨Nat.le_refl 0, Nat.le_refl 0⟩ rfl hl.1 rfl (Nat.le_of_ble_eq_true rfl) d_De_fetchPlace_73 (fun H locs hw => ?_)
      refine lv_ior hx hb d_De_fetchPlace_76 ?_
      refine pfK_5_index C0 hw fl_De_119 d_De_fetchPlace_77 (fun H locs hw => ?_)
      obtain ⟨q19, eq19, h⟩ := ok_n h
      rw [← eq19] at hw
      refine lv_aload_n hx hb d_De_fetchPlace_80 rfl (lv_at hl 1 rfl) ?_
      refine lv_aload_n hx hb d_De_fetchPlace_81 rfl (lv_at hl 1 rfl) ?_
      refine gfK_5_index C0 hw fl_De_119 d_De_fetchPlace_82 ?_
      refine lv_iconst (v := (4 : Int32)) hx hb d_De_fetchPlace_85 (by decide) ?_
      refine lv_icmp_ne (tgt := 93) hx hb d_De_fetchPlace_86 (by decide) (fun c20 => ?_) (fun c20 => ?_)
      · have h := ok_f h c20
        refine lv_aload_n hx hb d_De_fetchPlace_93 rfl (lv_at hl 1 rfl) ?_
        refine gfK_5_index C0 hw fl_De_119 d_De_fetchPlace_94 ?_
        exact w_De_fetchPlace_97 o C0 q19 (z_gI q19 8) h H locs ls hw (lv_sub hl [1] rfl)
      · have h := ok_t h c20
        refine lv_iconst (v := (-1 : Int32)) hx hb d_De_fetchPlace_89 (by decide) ?_
        refine lv_goto (tgt := 97) hx hb d_De_fetchPlace_90 (by decide) ?_
        exact w_De_fetchPlace_97 o C0 q19 (-1 : Int32) h H locs ls hw (lv_sub hl [1] rfl)
    · have h := ok_f h c15
      refine lv_iload_n hx hb d_De_fetchPlace_42 rfl (lv_at hl 0 rfl) ?_
      have ho := Option.some.inj h
      subst ho
      exact z_rti C0 hw d_De_fetchPlace_43
def k_De_isToldWithModrm_149 (t0 : Int32) (q : z_Sg) : Option Int32 :=
  z_gd (z_bo t0) (some t0)
def k_De_isToldWithModrm_162 (t0 : Int32) (q : z_Sg) : Option Int32 :=
  z_gd (z_bo t0) (some t0)
def k_De_isToldWithModrm_150 (q : z_Sg) : Option Int32 :=
  if (z_gI q 13) = 0 then (k_De_isToldWithModrm_162 (1 : Int32) q) else (k_De_isToldWithModrm_162 (0 : Int32) q)
def k_De_isToldWithModrm_177 (t0 : Int32) (q : z_Sg) : Option Int32 :=
  z_gd (z_bo t0) (some t0)
def k_De_isToldWithModrm_163 (q : z_Sg) : Option Int32 :=
  if (z_gI q 13) = (6 : Int32) then (k_De_isToldWithModrm_177 (0 : Int32) q) else (k_De_isToldWithModrm_177 (1 : Int32) q)
def k_De_isToldWithModrm_191 (t0 : Int32) (q : z_Sg) : Option Int32 :=
  z_gd (z_bo t0) (some t0)
def k_De_isToldWithModrm_178 (q : z_Sg) : Option Int32 :=
  if (z_gI q 13) = (1 : Int32) then (k_De_isToldWithModrm_191 (0 : Int32) q) else (k_De_isToldWithModrm_191 (1 : Int32) q)
def k_De_isToldWithModrm_205 (t0 : Int32) (q : z_Sg) : Option Int32 :=
  z_gd (z_bo t0) (some t0)
def k_De_isToldWithModrm_251 (t0 : Int32) (q : z_Sg) : Option Int32 :=
  z_gd (z_bo t0) (some t0)
def k_De_isToldWithModrm_246 (q : z_Sg) : Option Int32 :=
  k_De_isToldWithModrm_251 (1 : Int32) q
def k_De_isToldWithModrm_250 (q : z_Sg) : Option Int32 :=
  k_De_isToldWithModrm_251 (0 : Int32) q
def k_De_isToldWithModrm_239 (q : z_Sg) : Option Int32 :=
  if (z_gI q 5) = 0 then (k_De_isToldWithModrm_246 q) else (k_De_isToldWithModrm_250 q)
def k_De_isToldWithModrm_265 (t0 : Int32) (q : z_Sg) : Option Int32 :=
  z_gd (z_bo t0) (some t0)
def f_De_isToldWithModrm (q : z_Sg) : Option Int32 :=
  if (z_gI q 11) = (141 : Int32) then (if (z_gI q 12) = (3 : Int32) then (k_De_isToldWithModrm_149 (0 : Int32) q) else (k_De_isToldWithModrm_149 (1 : Int32) q)) else (if (z_gI q 11) = (143 : Int32) then (k_De_isToldWithModrm_150 q) else (if (z_gI q 11) = (192 : Int32) then (k_De_isToldWithModrm_163 q) else (if (z_gI q 11) = (193 : Int32) then (k_De_isToldWithModrm_163 q) else (if (z_gI q 11) = (198 : Int32) then (k_De_isToldWithModrm_150 q) else (if (z_gI q 11) = (199 : Int32) then (k_De_isToldWithModrm_150 q) else (if (z_gI q 11) = (208 : Int32) then (k_De_isToldWithModrm_163 q) else (if (z_gI q 11) = (209 : Int32) then (k_De_isToldWithModrm_163 q) else (if (z_gI q 11) = (210 : Int32) then (k_De_isToldWithModrm_163 q) else (if (z_gI q 11) = (211 : Int32) then (k_De_isToldWithModrm_163 q) else (if (z_gI q 11) = (246 : Int32) then (k_De_isToldWithModrm_178 q) else (if (z_gI q 11) = (247 : Int32) then (k_De_isToldWithModrm_178 q) else (if (z_gI q 11) = (254 : Int32) then (if (2 : Int32) ≤ (z_gI q 13) then (k_De_isToldWithModrm_205 (0 : Int32) q) else (k_De_isToldWithModrm_205 (1 : Int32) q)) else (if (z_gI q 11) = (255 : Int32) then (if (z_gI q 13) < (2 : Int32) then (k_De_isToldWithModrm_246 q) else (if (z_gI q 13) = (6 : Int32) then (k_De_isToldWithModrm_246 q) else (if (z_gI q 13) = (2 : Int32) then (k_De_isToldWithModrm_239 q) else (if (z_gI q 13) = (4 : Int32) then (k_De_isToldWithModrm_239 q) else (k_De_isToldWithModrm_250 q))))) else (if (z_gI q 11) = (442 : Int32) then (if (z_gI q 13) < (4 : Int32) then (k_De_isToldWithModrm_265 (0 : Int32) q) else (k_De_isToldWithModrm_265 (1 : Int32) q)) else (some (1 : Int32))))))))))))))))
set_option maxHeartbeats 4000000 in
set_option maxRecDepth 100000 in
theorem w_De_isToldWithModrm_149 {p : Program} {l : Launch} {e : Env} {s : State} {m : MethodId} {args : Array Value} {below : List Frame} {meth : Method} {c : Code} {D : va_G} {A : Nat → Prop} {ad : Nat → Nat} {ca : Nat → ClassId} (o : Int32) (C0 : z_cx z_RDe b_De_isToldWithModrm 1 (some .boolean) D (z_Kt ca) A p s m args meth c) (q : z_Sg) (t0 : Int32) (h : k_De_isToldWithModrm_149 t0 q = some o) : ∀ (H : Heap) (locs : List Loc) (ls : Array Slot), z_wd D (z_K ad ca q) A s H locs → lv_has ls 1 [] → W p l e (z_rm 0 0) s m args below meth c H locs 0 0 (z_qi below D (z_Kt ca) (z_K ad ca q) A s args o) (F0 m 149 ls [.int t0]) := by
  obtain ⟨hx, hb, hr, hlk, hml, hown, hts, hK, hA⟩ := id C0
  intro H locs ls hw hl
  obtain ⟨b3, h⟩ := ok_G h
  have ho := Option.some.inj h
  subst ho
  exact z_rtz C0 hw (z_bo_n b3) d_De_isToldWithModrm_149
set_option maxHeartbeats 4000000 in
set_option maxRecDepth 100000 in
theorem w_De_isToldWithModrm_162 {p : Program} {l : Launch} {e : Env} {s : State} {m : MethodId} {args : Array Value} {below : List Frame} {meth : Method} {c : Code} {D : va_G} {A : Nat → Prop} {ad : Nat → Nat} {ca : Nat → ClassId} (o : Int32) (C0 : z_cx z_RDe b_De_isToldWithModrm 1 (some .boolean) D (z_Kt ca) A p s m args meth c) (q : z_Sg) (t0 : Int32) (h : k_De_isToldWithModrm_162 t0 q = some o) : ∀ (H : Heap) (locs : List Loc) (ls : Array Slot), z_wd D (z_K ad ca q) A s H locs → lv_has ls 1 [] → W p l e (z_rm 0 0) s m args below meth c H locs 0 0 (z_qi below D (z_Kt ca) (z_K ad ca q) A s args o) (F0 m 162 ls [.int t0]) := by
  obtain ⟨hx, hb, hr, hlk, hml, hown, hts, hK, hA⟩ := id C0
  intro H locs ls hw hl
  obtain ⟨b6, h⟩ := ok_G h
  have ho := Option.some.inj h
  subst ho
  exact z_rtz C0 hw (z_bo_n b6) d_De_isToldWithModrm_162
set_option maxHeartbeats 4000000 in
set_option maxRecDepth 100000 in
theorem w_De_isToldWithModrm_150 {p : Program} {l : Launch} {e : Env} {s : State} {m : MethodId} {args : Array Value} {below : List Frame} {meth : Method} {c : Code} {D : va_G} {A : Nat → Prop} {ad : Nat → Nat} {ca : Nat → ClassId} (o : Int32) (C0 : z_cx z_RDe b_De_isToldWithModrm 1 (some .boolean) D (z_Kt ca) A p s m args meth c) (q : z_Sg) (h : k_De_isToldWithModrm_150 q = some o) : ∀ (H : Heap) (locs : List Loc) (ls : Array Slot), z_wd D (z_K ad ca q) A s H locs → lv_has ls 1 [(0, .ref (ad 5))] → W p l e (z_rm 0 0) s m args below meth c H locs 0 0 (z_qi below D (z_Kt ca) (z_K ad ca q) A s args o) (F0 m 150 ls []) := by
  obtain ⟨hx, hb, hr, hlk, hml, hown, hts, hK, hA⟩ := id C0
  intro H locs ls hw hl
  refine lv_aload_n hx hb d_De_isToldWithModrm_150 rfl (lv_at hl 0 rfl) ?_
  refine gfK_5_reg C0 hw fl_De_103 d_De_isToldWithModrm_151 ?_
  refine lv_if_ne (tgt := 161) hx hb d_De_isToldWithModrm_154 (by decide) (fun c5 => ?_) (fun c5 => ?_)
  · have h := ok_f h c5
    refine lv_iconst (v := (0 : Int32)) hx hb d_De_isToldWithModrm_161 (by decide) ?_
    exact w_De_isToldWithModrm_162 o C0 q (0 : Int32) h H locs ls hw (lv_sub hl [] rfl)
  · have h := ok_t h c5
    refine lv_iconst (v := (1 : Int32)) hx hb d_De_isToldWithModrm_157 (by decide) ?_
    refine lv_goto (tgt := 162) hx hb d_De_isToldWithModrm_158 (by decide) ?_
    exact w_De_isToldWithModrm_162 o C0 q (1 : Int32) h H locs ls hw (lv_sub hl [] rfl)
set_option maxHeartbeats 4000000 in
set_option maxRecDepth 100000 in
theorem w_De_isToldWithModrm_177 {p : Program} {l : Launch} {e : Env} {s : State} {m : MethodId} {args : Array Value} {below : List Frame} {meth : Method} {c : Code} {D : va_G} {A : Nat → Prop} {ad : Nat → Nat} {ca : Nat → ClassId} (o : Int32) (C0 : z_cx z_RDe b_De_isToldWithModrm 1 (some .boolean) D (z_Kt ca) A p s m args meth c) (q : z_Sg) (t0 : Int32) (h : k_De_isToldWithModrm_177 t0 q = some o) : ∀ (H : Heap) (locs : List Loc) (ls : Array Slot), z_wd D (z_K ad ca q) A s H locs → lv_has ls 1 [] → W p l e (z_rm 0 0) s m args below meth c H locs 0 0 (z_qi below D (z_Kt ca) (z_K ad ca q) A s args o) (F0 m 177 ls [.int t0]) := by
  obtain ⟨hx, hb, hr, hlk, hml, hown, hts, hK, hA⟩ := id C0
  intro H locs ls hw hl
  obtain ⟨b9, h⟩ := ok_G h
  have ho := Option.some.inj h
  subst ho
  exact z_rtz C0 hw (z_bo_n b9) d_De_isToldWithModrm_177
set_option maxHeartbeats 4000000 in
set_option maxRecDepth 100000 in
theorem w_De_isToldWithModrm_163 {p : Program} {l : Launch} {e : Env} {s : State} {m : MethodId} {args : Array Value} {below : List Frame} {meth : Method} {c : Code} {D : va_G} {A : Nat → Prop} {ad : Nat → Nat} {ca : Nat → ClassId} (o : Int32) (C0 : z_cx z_RDe b_De_isToldWithModrm 1 (some .boolean) D (z_Kt ca) A p s m args meth c) (q : z_Sg) (h : k_De_isToldWithModrm_163 q = some o) : ∀ (H : Heap) (locs : List Loc) (ls : Array Slot), z_wd D (z_K ad ca q) A s H locs → lv_has ls 1 [(0, .ref (ad 5))] → W p l e (z_rm 0 0) s m args below meth c H locs 0 0 (z_qi below D (z_Kt ca) (z_K ad ca q) A s args o) (F0 m 163 ls []) := by
  obtain ⟨hx, hb, hr, hlk, hml, hown, hts, hK, hA⟩ := id C0
  intro H locs ls hw hl
  refine lv_aload_n hx hb d_De_isToldWithModrm_163 rfl (lv_at hl 0 rfl) ?_
  refine gfK_5_reg C0 hw fl_De_103 d_De_isToldWithModrm_164 ?_
  refine lv_bipush (v := (6 : Int32)) hx hb d_De_isToldWithModrm_167 (by decide) ?_
  refine lv_icmp_eq (tgt := 176) hx hb d_De_isToldWithModrm_169 (by decide) (fun c8 => ?_) (fun c8 => ?_)
  · have h := ok_t h c8
    refine lv_iconst (v := (0 : Int32)) hx hb d_De_isToldWithModrm_176 (by decide) ?_
    exact w_De_isToldWithModrm_177 o C0 q (0 : Int32) h H locs ls hw (lv_sub hl [] rfl)
  · have h := ok_f h c8
    refine lv_iconst (v := (1 : Int32)) hx hb d_De_isToldWithModrm_172 (by decide) ?_
    refine lv_goto (tgt := 177) hx hb d_De_isToldWithModrm_173 (by decide) ?_
    exact w_De_isToldWithModrm_177 o C0 q (1 : Int32) h H locs ls hw (lv_sub hl [] rfl)
set_option maxHeartbeats 4000000 in
set_option maxRecDepth 100000 in
theorem w_De_isToldWithModrm_191 {p : Program} {l : Launch} {e : Env} {s : State} {m : MethodId} {args : Array Value} {below : List Frame} {meth : Method} {c : Code} {D : va_G} {A : Nat → Prop} {ad : Nat → Nat} {ca : Nat → ClassId} (o : Int32) (C0 : z_cx z_RDe b_De_isToldWithModrm 1 (some .boolean) D (z_Kt ca) A p s m args meth c) (q : z_Sg) (t0 : Int32) (h : k_De_isToldWithModrm_191 t0 q = some o) : ∀ (H : Heap) (locs : List Loc) (ls : Array Slot), z_wd D (z_K ad ca q) A s H locs → lv_has ls 1 [] → W p l e (z_rm 0 0) s m args below meth c H locs 0 0 (z_qi below D (z_Kt ca) (z_K ad ca q) A s args o) (F0 m 191 ls [.int t0]) := by
  obtain ⟨hx, hb, hr, hlk, hml, hown, hts, hK, hA⟩ := id C0
  intro H locs ls hw hl
  obtain ⟨b19, h⟩ := ok_G h
  have ho := Option.some.inj h
  subst ho
  exact z_rtz C0 hw (z_bo_n b19) d_De_isToldWithModrm_191
set_option maxHeartbeats 4000000 in
set_option maxRecDepth 100000 in
theorem w_De_isToldWithModrm_178 {p : Program} {l : Launch} {e : Env} {s : State} {m : MethodId} {args : Array Value} {below : List Frame} {meth : Method} {c : Code} {D : va_G} {A : Nat → Prop} {ad : Nat → Nat} {ca : Nat → ClassId} (o : Int32) (C0 : z_cx z_RDe b_De_isToldWithModrm 1 (some .boolean) D (z_Kt ca) A p s m args meth c) (q : z_Sg) (h : k_De_isToldWithModrm_178 q = some o) : ∀ (H : Heap) (locs : List Loc) (ls : Array Slot), z_wd D (z_K ad ca q) A s H locs → lv_has ls 1 [(0, .ref (ad 5))] → W p l e (z_rm 0 0) s m args below meth c H locs 0 0 (z_qi below D (z_Kt ca) (z_K ad ca q) A s args o) (F0 m 178 ls []) := by
  obtain ⟨hx, hb, hr, hlk, hml, hown, hts, hK, hA⟩ := id C0
  intro H locs ls hw hl
  refine lv_aload_n hx hb d_De_isToldWithModrm_178 rfl (lv_at hl 0 rfl) ?_
  refine gfK_5_reg C0 hw fl_De_103 d_De_isToldWithModrm_179 ?_
  refine lv_iconst (v := (1 : Int32)) hx hb d_De_isToldWithModrm_182 (by decide) ?_
  refine lv_icmp_eq (tgt := 190) hx hb d_De_isToldWithModrm_183 (by decide) (fun c18 => ?_) (fun c18 => ?_)
  · have h := ok_t h c18
    refine lv_iconst (v := (0 : Int32)) hx hb d_De_isToldWithModrm_190 (by decide) ?_
    exact w_De_isToldWithModrm_191 o C0 q (0 : Int32) h H locs ls hw (lv_sub hl [] rfl)
  · have h := ok_f h c18
    refine lv_iconst (v := (1 : Int32)) hx hb d_De_isToldWithModrm_186 (by decide) ?_
    refine lv_goto (tgt := 191) hx hb d_De_isToldWithModrm_187 (by decide) ?_
    exact w_De_isToldWithModrm_191 o C0 q (1 : Int32) h H locs ls hw (lv_sub hl [] rfl)
set_option maxHeartbeats 4000000 in
set_option maxRecDepth 100000 in
theorem w_De_isToldWithModrm_205 {p : Program} {l : Launch} {e : Env} {s : State} {m : MethodId} {args : Array Value} {below : List Frame} {meth : Method} {c : Code} {D : va_G} {A : Nat → Prop} {ad : Nat → Nat} {ca : Nat → ClassId} (o : Int32) (C0 : z_cx z_RDe b_De_isToldWithModrm 1 (some .boolean) D (z_Kt ca) A p s m args meth c) (q : z_Sg) (t0 : Int32) (h : k_De_isToldWithModrm_205 t0 q = some o) : ∀ (H : Heap) (locs : List Loc) (ls : Array Slot), z_wd D (z_K ad ca q) A s H locs → lv_has ls 1 [] → W p l e (z_rm 0 0) s m args below meth c H locs 0 0 (z_qi below D (z_Kt ca) (z_K ad ca q) A s args o) (F0 m 205 ls [.int t0]) := by
  obtain ⟨hx, hb, hr, hlk, hml, hown, hts, hK, hA⟩ := id C0
  intro H locs ls hw hl
  obtain ⟨b23, h⟩ := ok_G h
  have ho := Option.some.inj h
  subst ho
  exact z_rtz C0 hw (z_bo_n b23) d_De_isToldWithModrm_205
set_option maxHeartbeats 4000000 in
set_option maxRecDepth 100000 in
theorem w_De_isToldWithModrm_251 {p : Program} {l : Launch} {e : Env} {s : State} {m : MethodId} {args : Array Value} {below : List Frame} {meth : Method} {c : Code} {D : va_G} {A : Nat → Prop} {ad : Nat → Nat} {ca : Nat → ClassId} (o : Int32) (C0 : z_cx z_RDe b_De_isToldWithModrm 1 (some .boolean) D (z_Kt ca) A p s m args meth c) (q : z_Sg) (t0 : Int32) (h : k_De_isToldWithModrm_251 t0 q = some o) : ∀ (H : Heap) (locs : List Loc) (ls : Array Slot), z_wd D (z_K ad ca q) A s H locs → lv_has ls 1 [] → W p l e (z_rm 0 0) s m args below meth c H locs 0 0 (z_qi below D (z_Kt ca) (z_K ad ca q) A s args o) (F0 m 251 ls [.int t0]) := by
  obtain ⟨hx, hb, hr, hlk, hml, hown, hts, hK, hA⟩ := id C0
  intro H locs ls hw hl
  obtain ⟨b26, h⟩ := ok_G h
  have ho := Option.some.inj h
  subst ho
  exact z_rtz C0 hw (z_bo_n b26) d_De_isToldWithModrm_251
set_option maxHeartbeats 4000000 in
set_option maxRecDepth 100000 in
theorem w_De_isToldWithModrm_246 {p : Program} {l : Launch} {e : Env} {s : State} {m : MethodId} {args : Array Value} {below : List Frame} {meth : Method} {c : Code} {D : va_G} {A : Nat → Prop} {ad : Nat → Nat} {ca : Nat → ClassId} (o : Int32) (C0 : z_cx z_RDe b_De_isToldWithModrm 1 (some .boolean) D (z_Kt ca) A p s m args meth c) (q : z_Sg) (h : k_De_isToldWithModrm_246 q = some o) : ∀ (H : Heap) (locs : List Loc) (ls : Array Slot), z_wd D (z_K ad ca q) A s H locs → lv_has ls 1 [] → W p l e (z_rm 0 0) s m args below meth c H locs 0 0 (z_qi below D (z_Kt ca) (z_K ad ca q) A s args o) (F0 m 246 ls []) := by
  obtain ⟨hx, hb, hr, hlk, hml, hown, hts, hK, hA⟩ := id C0
  intro H locs ls hw hl
  refine lv_iconst (v := (1 : Int32)) hx hb d_De_isToldWithModrm_246 (by decide) ?_
  refine lv_goto (tgt := 251) hx hb d_De_isToldWithModrm_247 (by decide) ?_
  exact w_De_isToldWithModrm_251 o C0 q (1 : Int32) h H locs ls hw (lv_sub hl [] rfl)
set_option maxHeartbeats 4000000 in
set_option maxRecDepth 100000 in
theorem w_De_isToldWithModrm_250 {p : Program} {l : Launch} {e : Env} {s : State} {m : MethodId} {args : Array Value} {below : List Frame} {meth : Method} {c : Code} {D : va_G} {A : Nat → Prop} {ad : Nat → Nat} {ca : Nat → ClassId} (o : Int32) (C0 : z_cx z_RDe b_De_isToldWithModrm 1 (some .boolean) D (z_Kt ca) A p s m args meth c) (q : z_Sg) (h : k_De_isToldWithModrm_250 q = some o) : ∀ (H : Heap) (locs : List Loc) (ls : Array Slot), z_wd D (z_K ad ca q) A s H locs → lv_has ls 1 [] → W p l e (z_rm 0 0) s m args below meth c H locs 0 0 (z_qi below D (z_Kt ca) (z_K ad ca q) A s args o) (F0 m 250 ls []) := by
  obtain ⟨hx, hb, hr, hlk, hml, hown, hts, hK, hA⟩ := id C0
  intro H locs ls hw hl
  refine lv_iconst (v := (0 : Int32)) hx hb d_De_isToldWithModrm_250 (by decide) ?_
  exact w_De_isToldWithModrm_251 o C0 q (0 : Int32) h H locs ls hw (lv_sub hl [] rfl)
set_option maxHeartbeats 4000000 in
set_option maxRecDepth 100000 in
theorem w_De_isToldWithModrm_239 {p : Program} {l : Launch} {e : Env} {s : State} {m : MethodId} {args : Array Value} {below : List Frame} {meth : Method} {c : Code} {D : va_G} {A : Nat → Prop} {ad : Nat → Nat} {ca : Nat → ClassId} (o : Int32) (C0 : z_cx z_RDe b_De_isToldWithModrm 1 (some .boolean) D (z_Kt ca) A p s m args meth c) (q : z_Sg) (h : k_De_isToldWithModrm_239 q = some o) : ∀ (H : Heap) (locs : List Loc) (ls : Array Slot), z_wd D (z_K ad ca q) A s H locs → lv_has ls 1 [(0, .ref (ad 5))] → W p l e (z_rm 0 0) s m args below meth c H locs 0 0 (z_qi below D (z_Kt ca) (z_K ad ca q) A s args o) (F0 m 239 ls []) := by
  obtain ⟨hx, hb, hr, hlk, hml, hown, hts, hK, hA⟩ := id C0
  intro H locs ls hw hl
  refine lv_aload_n hx hb d_De_isToldWithModrm_239 rfl (lv_at hl 0 rfl) ?_
  refine gfK_5_shortened C0 hw fl_De_71 d_De_isToldWithModrm_240 ?_
  refine lv_if_ne (tgt := 250) hx hb d_De_isToldWithModrm_243 (by decide) (fun c29 => ?_) (fun c29 => ?_)
  · have h := ok_f h c29
    exact w_De_isToldWithModrm_250 o C0 q h H locs ls hw (lv_sub hl [] rfl)
  · have h := ok_t h c29
    exact w_De_isToldWithModrm_246 o C0 q h H locs ls hw (lv_sub hl [] rfl)
set_option maxHeartbeats 4000000 in
set_option maxRecDepth 100000 in
theorem w_De_isToldWithModrm_265 {p : Program} {l : Launch} {e : Env} {s : State} {m : MethodId} {args : Array Value} {below : List Frame} {meth : Method} {c : Code} {D : va_G} {A : Nat → Prop} {ad : Nat → Nat} {ca : Nat → ClassId} (o : Int32) (C0 : z_cx z_RDe b_De_isToldWithModrm 1 (some .boolean) D (z_Kt ca) A p s m args meth c) (q : z_Sg) (t0 : Int32) (h : k_De_isToldWithModrm_265 t0 q = some o) : ∀ (H : Heap) (locs : List Loc) (ls : Array Slot), z_wd D (z_K ad ca q) A s H locs → lv_has ls 1 [] → W p l e (z_rm 0 0) s m args below meth c H locs 0 0 (z_qi below D (z_Kt ca) (z_K ad ca q) A s args o) (F0 m 265 ls [.int t0]) := by
  obtain ⟨hx, hb, hr, hlk, hml, hown, hts, hK, hA⟩ := id C0
  intro H locs ls hw hl
  obtain ⟨b33, h⟩ := ok_G h
  have ho := Option.some.inj h
  subst ho
  exact z_rtz C0 hw (z_bo_n b33) d_De_isToldWithModrm_265
set_option maxHeartbeats 4000000 in
set_option maxRecDepth 100000 in
theorem c_De_isToldWithModrm {l : Launch} {D : va_G} {ad : Nat → Nat} {ca : Nat → ClassId} (q : z_Sg) (o : Int32) (h : f_De_isToldWithModrm q = some o) : z_ci l y_De_isToldWithModrm b_De_isToldWithModrm 1 (some .boolean) 0 0 D (z_Kt ca) (z_K ad ca q) (z_K ad ca q) [.ref (ad 5)] o := by
  refine z_ci_of (own := z_RDe) (by decide) rfl ?_
  intro p e s m below meth c A C0 hw
  obtain ⟨hx, hb, hr, hlk, hml, hown, hts, hK, hA⟩ := id C0
  generalize hH : s.heap = H at hw ⊢
  generalize hlo : ([] : List Loc) = locs at hw ⊢
  refine z_entry (lv := [(0, .ref (ad 5))]) (Nat.le_of_ble_eq_true rfl) rfl (fun ls hl => ?_)
  unfold f_De_isToldWithModrm at h
  refine lv_aload_n hx hb d_De_isToldWithModrm_0 rfl (lv_at hl 0 rfl) ?_
  refine gfK_5_opcode C0 hw fl_De_23 d_De_isToldWithModrm_1 ?_
  by_cases c1 : (z_gI q 11) = (141 : Int32)
  · have h := ok_t h c1
    refine lv_lookup (off := 132) (tgt := 136) hx hb d_De_isToldWithModrm_4 (by decide) (by rw [c1]; rfl) (by decide) ?_
    refine lv_aload_n hx hb d_De_isToldWithModrm_136 rfl (lv_at hl 0 rfl) ?_
    refine gfK_5_mod C0 hw fl_De_38 d_De_isToldWithModrm_137 ?_
    refine lv_iconst (v := (3 : Int32)) hx hb d_De_isToldWithModrm_140 (by decide) ?_
    refine lv_icmp_eq (tgt := 148) hx hb d_De_isToldWithModrm_141 (by decide) (fun c2 => ?_) (fun c2 => ?_)
    · have h := ok_t h c2
      refine lv_iconst (v := (0 : Int32)) hx hb d_De_isToldWithModrm_148 (by decide) ?_
      exact w_De_isToldWithModrm_149 o C0 q (0 : Int32) h H locs ls hw (lv_sub hl [] rfl)
    · have h := ok_f h c2
      refine lv_iconst (v := (1 : Int32)) hx hb d_De_isToldWithModrm_144 (by decide) ?_
      refine lv_goto (tgt := 149) hx hb d_De_isToldWithModrm_145 (by decide) ?_
      exact w_De_isToldWithModrm_149 o C0 q (1 : Int32) h H locs ls hw (lv_sub hl [] rfl)
  have h := ok_f h c1
  by_cases c4 : (z_gI q 11) = (143 : Int32)
  · have h := ok_t h c4
    refine lv_lookup (off := 146) (tgt := 150) hx hb d_De_isToldWithModrm_4 (by decide) (by rw [c4]; rfl) (by decide) ?_
    exact w_De_isToldWithModrm_150 o C0 q h H locs ls hw (lv_sub hl [0] rfl)
  have h := ok_f h c4
  by_cases c7 : (z_gI q 11) = (192 : Int32)
  · have h := ok_t h c7
    refine lv_lookup (off := 159) (tgt := 163) hx hb d_De_isToldWithModrm_4 (by decide) (by rw [c7]; rfl) (by decide) ?_
    exact w_De_isToldWithModrm_163 o C0 q h H locs ls hw (lv_sub hl [0] rfl)
  have h := ok_f h c7
  by_cases c10 : (z_gI q 11) = (193 : Int32)
  · have h := ok_t h c10
    refine lv_lookup (off := 159) (tgt := 163) hx hb d_De_isToldWithModrm_4 (by decide) (by rw [c10]; rfl) (by decide) ?_
    exact w_De_isToldWithModrm_163 o C0 q h H locs ls hw (lv_sub hl [0] rfl)
  have h := ok_f h c10
  by_cases c11 : (z_gI q 11) = (198 : Int32)
  · have h := ok_t h c11
    refine lv_lookup (off := 146) (tgt := 150) hx hb d_De_isToldWithModrm_4 (by decide) (by rw [c11]; rfl) (by decide) ?_
    exact w_De_isToldWithModrm_150 o C0 q h H locs ls hw (lv_sub hl [0] rfl)
  have h := ok_f h c11
  by_cases c12 : (z_gI q 11) = (199 : Int32)
  · have h := ok_t h c12
    refine lv_lookup (off := 146) (tgt := 150) hx hb d_De_isToldWithModrm_4 (by decide) (by rw [c12]; rfl) (by decide) ?_
    exact w_De_isToldWithModrm_150 o C0 q h H locs ls hw (lv_sub hl [0] rfl)
  have h := ok_f h c12
  by_cases c13 : (z_gI q 11) = (208 : Int32)
  · have h := ok_t h c13
    refine lv_lookup (off := 159) (tgt := 163) hx hb d_De_isToldWithModrm_4 (by decide) (by rw [c13]; rfl) (by decide) ?_
    exact w_De_isToldWithModrm_163 o C0 q h H locs ls hw (lv_sub hl [0] rfl)
  have h := ok_f h c13
  by_cases c14 : (z_gI q 11) = (209 : Int32)
  · have h := ok_t h c14
    refine lv_lookup (off := 159) (tgt := 163) hx hb d_De_isToldWithModrm_4 (by decide) (by rw [c14]; rfl) (by decide) ?_
    exact w_De_isToldWithModrm_163 o C0 q h H locs ls hw (lv_sub hl [0] rfl)
  have h := ok_f h c14
  by_cases c15 : (z_gI q 11) = (210 : Int32)
  · have h := ok_t h c15
    refine lv_lookup (off := 159) (tgt := 163) hx hb d_De_isToldWithModrm_4 (by decide) (by rw [c15]; rfl) (by decide) ?_
    exact w_De_isToldWithModrm_163 o C0 q h H locs ls hw (lv_sub hl [0] rfl)
  have h := ok_f h c15
  by_cases c16 : (z_gI q 11) = (211 : Int32)
  · have h := ok_t h c16
    refine lv_lookup (off := 159) (tgt := 163) hx hb d_De_isToldWithModrm_4 (by decide) (by rw [c16]; rfl) (by decide) ?_
    exact w_De_isToldWithModrm_163 o C0 q h H locs ls hw (lv_sub hl [0] rfl)
  have h := ok_f h c16
  by_cases c17 : (z_gI q 11) = (246 : Int32)
  · have h := ok_t h c17
    refine lv_lookup (off := 174) (tgt := 178) hx hb d_De_isToldWithModrm_4 (by decide) (by rw [c17]; rfl) (by decide) ?_
    exact w_De_isToldWithModrm_178 o C0 q h H locs ls hw (lv_sub hl [0] rfl)
  have h := ok_f h c17
  by_cases c20 : (z_gI q 11) = (247 : Int32)
  · have h := ok_t h c20
    refine lv_lookup (off := 174) (tgt := 178) hx hb d_De_isToldWithModrm_4 (by decide) (by rw [c20]; rfl) (by decide) ?_
    exact w_De_isToldWithModrm_178 o C0 q h H locs ls hw (lv_sub hl [0] rfl)
  have h := ok_f h c20
  by_cases c21 : (z_gI q 11) = (254 : Int32)
  · have h := ok_t h c21
    refine lv_lookup (off := 188) (tgt := 192) hx hb d_De_isToldWithModrm_4 (by decide) (by rw [c21]; rfl) (by decide) ?_
    refine lv_aload_n hx hb d_De_isToldWithModrm_192 rfl (lv_at hl 0 rfl) ?_
    refine gfK_5_reg C0 hw fl_De_103 d_De_isToldWithModrm_193 ?_
    refine lv_iconst (v := (2 : Int32)) hx hb d_De_isToldWithModrm_196 (by decide) ?_
    refine lv_icmp_ge (tgt := 204) hx hb d_De_isToldWithModrm_197 (by decide) (fun c22 => ?_) (fun c22 => ?_)
    · have h := ok_t h c22
      refine lv_iconst (v := (0 : Int32)) hx hb d_De_isToldWithModrm_204 (by decide) ?_
      exact w_De_isToldWithModrm_205 o C0 q (0 : Int32) h H locs ls hw (lv_sub hl [] rfl)
    · have h := ok_f h c22
      refine lv_iconst (v := (1 : Int32)) hx hb d_De_isToldWithModrm_200 (by decide) ?_
      refine lv_goto (tgt := 205) hx hb d_De_isToldWithModrm_201 (by decide) ?_
      exact w_De_isToldWithModrm_205 o C0 q (1 : Int32) h H locs ls hw (lv_sub hl [] rfl)
  have h := ok_f h c21
  by_cases c24 : (z_gI q 11) = (255 : Int32)
  · have h := ok_t h c24
    refine lv_lookup (off := 202) (tgt := 206) hx hb d_De_isToldWithModrm_4 (by decide) (by rw [c24]; rfl) (by decide) ?_
    refine lv_aload_n hx hb d_De_isToldWithModrm_206 rfl (lv_at hl 0 rfl) ?_
    refine gfK_5_reg C0 hw fl_De_103 d_De_isToldWithModrm_207 ?_
    refine lv_iconst (v := (2 : Int32)) hx hb d_De_isToldWithModrm_210 (by decide) ?_
    refine lv_icmp_lt (tgt := 246) hx hb d_De_isToldWithModrm_211 (by decide) (fun c25 => ?_) (fun c25 => ?_)
    · have h := ok_t h c25
      exact w_De_isToldWithModrm_246 o C0 q h H locs ls hw (lv_sub hl [] rfl)
    · have h := ok_f h c25
      refine lv_aload_n hx hb d_De_isToldWithModrm_214 rfl (lv_at hl 0 rfl) ?_
      refine gfK_5_reg C0 hw fl_De_103 d_De_isToldWithModrm_215 ?_
      refine lv_bipush (v := (6 : Int32)) hx hb d_De_isToldWithModrm_218 (by decide) ?_
      refine lv_icmp_eq (tgt := 246) hx hb d_De_isToldWithModrm_220 (by decide) (fun c27 => ?_) (fun c27 => ?_)
      · have h := ok_t h c27
        exact w_De_isToldWithModrm_246 o C0 q h H locs ls hw (lv_sub hl [] rfl)
      · have h := ok_f h c27
        refine lv_aload_n hx hb d_De_isToldWithModrm_223 rfl (lv_at hl 0 rfl) ?_
        refine gfK_5_reg C0 hw fl_De_103 d_De_isToldWithModrm_224 ?_
        refine lv_iconst (v := (2 : Int32)) hx hb d_De_isToldWithModrm_227 (by decide) ?_
        refine lv_icmp_eq (tgt := 239) hx hb d_De_isToldWithModrm_228 (by decide) (fun c28 => ?_) (fun c28 => ?_)
        · have h := ok_t h c28
          exact w_De_isToldWithModrm_239 o C0 q h H locs ls hw (lv_sub hl [0] rfl)
        · have h := ok_f h c28
          refine lv_aload_n hx hb d_De_isToldWithModrm_231 rfl (lv_at hl 0 rfl) ?_
          refine gfK_5_reg C0 hw fl_De_103 d_De_isToldWithModrm_232 ?_
          refine lv_iconst (v := (4 : Int32)) hx hb d_De_isToldWithModrm_235 (by decide) ?_
          refine lv_icmp_ne (tgt := 250) hx hb d_De_isToldWithModrm_236 (by decide) (fun c30 => ?_) (fun c30 => ?_)
          · have h := ok_f h c30
            exact w_De_isToldWithModrm_250 o C0 q h H locs ls hw (lv_sub hl [] rfl)
          · have h := ok_t h c30
            exact w_De_isToldWithModrm_239 o C0 q h H locs ls hw (lv_sub hl [0] rfl)
  have h := ok_f h c24
  by_cases c31 : (z_gI q 11) = (442 : Int32)
  · have h := ok_t h c31
    refine lv_lookup (off := 248) (tgt := 252) hx hb d_De_isToldWithModrm_4 (by decide) (by rw [c31]; rfl) (by decide) ?_
    refine lv_aload_n hx hb d_De_isToldWithModrm_252 rfl (lv_at hl 0 rfl) ?_
    refine gfK_5_reg C0 hw fl_De_103 d_De_isToldWithModrm_253 ?_
    refine lv_iconst (v := (4 : Int32)) hx hb d_De_isToldWithModrm_256 (by decide) ?_
    refine lv_icmp_lt (tgt := 264) hx hb d_De_isToldWithModrm_257 (by decide) (fun c32 => ?_) (fun c32 => ?_)
    · have h := ok_t h c32
      refine lv_iconst (v := (0 : Int32)) hx hb d_De_isToldWithModrm_264 (by decide) ?_
      exact w_De_isToldWithModrm_265 o C0 q (0 : Int32) h H locs ls hw (lv_sub hl [] rfl)
    · have h := ok_f h c32
      refine lv_iconst (v := (1 : Int32)) hx hb d_De_isToldWithModrm_260 (by decide) ?_
      refine lv_goto (tgt := 265) hx hb d_De_isToldWithModrm_261 (by decide) ?_
      exact w_De_isToldWithModrm_265 o C0 q (1 : Int32) h H locs ls hw (lv_sub hl [] rfl)
  have h := ok_f h c31
  refine lv_lookup (off := 262) (tgt := 266) hx hb d_De_isToldWithModrm_4 (by decide) (by show Op.lookupswitch.offset [(141, 132), (143, 146), (192, 159), (193, 159), (198, 146), (199, 146), (208, 159), (209, 159), (210, 159), (211, 159), (246, 174), (247, 174), (254, 188), (255, 202), (442, 248)] _ _ = _; rw [lv_osw (a := 141) c1 rfl, lv_osw (a := 143) c4 rfl, lv_osw (a := 192) c7 rfl, lv_osw (a := 193) c10 rfl, lv_osw (a := 198) c11 rfl, lv_osw (a := 199) c12 rfl, lv_osw (a := 208) c13 rfl, lv_osw (a := 209) c14 rfl, lv_osw (a := 210) c15 rfl, lv_osw (a := 211) c16 rfl, lv_osw (a := 246) c17 rfl, lv_osw (a := 247) c20 rfl, lv_osw (a := 254) c21 rfl, lv_osw (a := 255) c24 rfl, lv_osw (a := 442) c31 rfl]; rfl) (by decide) ?_
  refine lv_iconst (v := (1 : Int32)) hx hb d_De_isToldWithModrm_266 (by decide) ?_
  have ho := Option.some.inj h
  subst ho
  exact z_rtz C0 hw (z_bo_n (Or.inr rfl)) d_De_isToldWithModrm_267
def k_De_fetchModrm_60 (t0 : Int32) (q : z_Sg) : Option (Int32 × z_Sg) :=
  some (t0, q)
def f_De_fetchModrm (q : z_Sg) : Option (Int32 × z_Sg) :=
  (f_De_fetch q).bind (fun r1 => if r1.1 = (-1 : Int32) then (z_nm (z_sI r1.2 12 ((z_gI r1.2 4) >>> ((6 : Int32) &&& 31))) (fun q3 => z_nm (z_sI q3 13 (((z_gI q3 4) >>> ((3 : Int32) &&& 31)) &&& (7 : Int32))) (fun q4 => z_nm (z_sI q4 14 ((z_gI q4 4) &&& (7 : Int32))) (fun q5 => (f_De_isToldWithModrm q5).bind (fun r6 => if r6 = 0 then (k_De_fetchModrm_60 (6 : Int32) q5) else (k_De_fetchModrm_60 (-1 : Int32) q5)))))) else (some (r1.1, r1.2)))
set_option maxHeartbeats 4000000 in
set_option maxRecDepth 100000 in
theorem w_De_fetchModrm_60 {p : Program} {l : Launch} {e : Env} {s : State} {m : MethodId} {args : Array Value} {below : List Frame} {meth : Method} {c : Code} {D : va_G} {A : Nat → Prop} {ad : Nat → Nat} {ca : Nat → ClassId} (o : (Int32 × z_Sg)) (C0 : z_cx z_RDe b_De_fetchModrm 2 (some .int) D (z_Kt ca) A p s m args meth c) (q : z_Sg) (t0 : Int32) (h : k_De_fetchModrm_60 t0 q = some o) : ∀ (H : Heap) (locs : List Loc) (ls : Array Slot), z_wd D (z_K ad ca q) A s H locs → lv_has ls 2 [] → W p l e (z_rm 3 83) s m args below meth c H locs 0 0 (z_qi below D (z_Kt ca) (z_K ad ca o.2) A s args o.1) (F0 m 60 ls [.int t0]) := by
  obtain ⟨hx, hb, hr, hlk, hml, hown, hts, hK, hA⟩ := id C0
  intro H locs ls hw hl
  have ho := Option.some.inj h
  subst ho
  exact z_rti C0 hw d_De_fetchModrm_60
set_option maxHeartbeats 4000000 in
set_option maxRecDepth 100000 in
theorem c_De_fetchModrm {l : Launch} {D : va_G} {ad : Nat → Nat} {ca : Nat → ClassId} (q : z_Sg) (o : (Int32 × z_Sg)) (h : f_De_fetchModrm q = some o) : z_ci l y_De_fetchModrm b_De_fetchModrm 2 (some .int) 3 83 D (z_Kt ca) (z_K ad ca q) (z_K ad ca o.2) [.ref (ad 5)] o.1 := by
  refine z_ci_of (own := z_RDe) (by decide) rfl ?_
  intro p e s m below meth c A C0 hw
  obtain ⟨hx, hb, hr, hlk, hml, hown, hts, hK, hA⟩ := id C0
  generalize hH : s.heap = H at hw ⊢
  generalize hlo : ([] : List Loc) = locs at hw ⊢
  refine z_entry (lv := [(0, .ref (ad 5))]) (Nat.le_of_ble_eq_true rfl) rfl (fun ls hl => ?_)
  unfold f_De_fetchModrm at h
  refine lv_aload_n hx hb d_De_fetchModrm_0 rfl (lv_at hl 0 rfl) ?_
  obtain ⟨r1, er1, h⟩ := ok_b h
  refine z_vi (rest := []) C0 hw (c_De_fetch q r1 er1) mw_De_fetch ml_De_81 5 rfl ⟨Nat.le_of_ble_eq_true rfl, Nat.le_of_ble_eq_true rfl⟩ ⟨Nat.le_refl 0, Nat.le_refl 0⟩ rfl hl.1 rfl (Nat.le_of_ble_eq_true rfl) d_De_fetchModrm_1 (fun H locs hw => ?_)
  refine lv_istore_n (lv' := [(1, .int r1.1), (0, .ref (ad 5))]) hx hb d_De_fetchModrm_4 rfl hl (by decide) rfl (fun ls hl => ?_)
  refine lv_iload_n hx hb d_De_fetchModrm_5 rfl (lv_at hl 0 rfl) ?_
  refine lv_iconst (v := (-1 : Int32)) hx hb d_De_fetchModrm_6 (by decide) ?_
  refine lv_icmp_eq (tgt := 12) hx hb d_De_fetchModrm_7 (by decide) (fun c2 => ?_) (fun c2 => ?_)
  · have h := ok_t h c2
    refine lv_aload_n hx hb d_De_fetchModrm_12 rfl (lv_at hl 1 rfl) ?_
    refine lv_aload_n hx hb d_De_fetchModrm_13 rfl (lv_at hl 1 rfl) ?_
    refine gfK_5_last C0 hw fl_De_84 d_De_fetchModrm_14 ?_
    refine lv_bipush (v := (6 : Int32)) hx hb d_De_fetchModrm_17 (by decide) ?_
    refine lv_ishr hx hb d_De_fetchModrm_19 ?_
    refine pfK_5_mod C0 hw fl_De_38 d_De_fetchModrm_20 (fun H locs hw => ?_)
    obtain ⟨q3, eq3, h⟩ := ok_n h
    rw [← eq3] at hw
    refine lv_aload_n hx hb d_De_fetchModrm_23 rfl (lv_at hl 1 rfl) ?_
    refine lv_aload_n hx hb d_De_fetchModrm_24 rfl (lv_at hl 1 rfl) ?_
    refine gfK_5_last C0 hw fl_De_84 d_De_fetchModrm_25 ?_
    refine lv_iconst (v := (3 : Int32)) hx hb d_De_fetchModrm_28 (by decide) ?_
    refine lv_ishr hx hb d_De_fetchModrm_29 ?_
    refine lv_bipush (v := (7 : Int32)) hx hb d_De_fetchModrm_30 (by decide) ?_
    refine lv_iand hx hb d_De_fetchModrm_32 ?_
    refine pfK_5_reg C0 hw fl_De_103 d_De_fetchModrm_33 (fun H locs hw => ?_)
    obtain ⟨q4, eq4, h⟩ := ok_n h
    rw [← eq4] at hw
    refine lv_aload_n hx hb d_De_fetchModrm_36 rfl (lv_at hl 1 rfl) ?_
    refine lv_aload_n hx hb d_De_fetchModrm_37 rfl (lv_at hl 1 rfl) ?_
    refine gfK_5_last C0 hw fl_De_84 d_De_fetchModrm_38 ?_
    refine lv_bipush (v := (7 : Int32)) hx hb d_De_fetchModrm_41 (by decide) ?_
    refine lv_iand hx hb d_De_fetchModrm_43 ?_
    refine pfK_5_rm C0 hw fl_De_106 d_De_fetchModrm_44 (fun H locs hw => ?_)
    obtain ⟨q5, eq5, h⟩ := ok_n h
    rw [← eq5] at hw
    refine lv_aload_n hx hb d_De_fetchModrm_47 rfl (lv_at hl 1 rfl) ?_
    obtain ⟨r6, er6, h⟩ := ok_b h
    refine z_vi (rest := []) C0 hw (c_De_isToldWithModrm q5 r6 er6) mw_De_isToldWithModrm ml_De_109 5 rfl ⟨Nat.le_of_ble_eq_true rfl, Nat.le_of_ble_eq_true rfl⟩ ⟨Nat.le_refl 0, Nat.le_refl 0⟩ rfl hl.1 rfl (Nat.le_of_ble_eq_true rfl) d_De_fetchModrm_48 (fun H locs hw => ?_)
    refine lv_if_eq (tgt := 58) hx hb d_De_fetchModrm_51 (by decide) (fun c7 => ?_) (fun c7 => ?_)
    · have h := ok_t h c7
      refine lv_bipush (v := (6 : Int32)) hx hb d_De_fetchModrm_58 (by decide) ?_
      exact w_De_fetchModrm_60 o C0 q5 (6 : Int32) h H locs ls hw (lv_sub hl [] rfl)
    · have h := ok_f h c7
      refine lv_iconst (v := (-1 : Int32)) hx hb d_De_fetchModrm_54 (by decide) ?_
      refine lv_goto (tgt := 60) hx hb d_De_fetchModrm_55 (by decide) ?_
      exact w_De_fetchModrm_60 o C0 q5 (-1 : Int32) h H locs ls hw (lv_sub hl [] rfl)
  · have h := ok_f h c2
    refine lv_iload_n hx hb d_De_fetchModrm_10 rfl (lv_at hl 0 rfl) ?_
    have ho := Option.some.inj h
    subst ho
    exact z_rti C0 hw d_De_fetchModrm_11
def k_De_formOfSum_39 (q : z_Sg) : Option Int32 :=
  some (0 : Int32)
def f_De_formOfSum (x0 : Int32) (q : z_Sg) : Option Int32 :=
  if x0 = (4 : Int32) then (some (8 : Int32)) else (if x0 = (5 : Int32) then (some (128 : Int32)) else (if x0 = (6 : Int32) then (k_De_formOfSum_39 q) else (if x0 = (7 : Int32) then (k_De_formOfSum_39 q) else (some (2 : Int32)))))
set_option maxHeartbeats 4000000 in
set_option maxRecDepth 100000 in
theorem w_De_formOfSum_39 {p : Program} {l : Launch} {e : Env} {s : State} {m : MethodId} {args : Array Value} {below : List Frame} {meth : Method} {c : Code} {D : va_G} {A : Nat → Prop} {ad : Nat → Nat} {ca : Nat → ClassId} (o : Int32) (C0 : z_cx z_RDe b_De_formOfSum 1 (some .int) D (z_Kt ca) A p s m args meth c) (q : z_Sg) (h : k_De_formOfSum_39 q = some o) : ∀ (H : Heap) (locs : List Loc) (ls : Array Slot), z_wd D (z_K ad ca q) A s H locs → lv_has ls 1 [] → W p l e (z_rm 0 0) s m args below meth c H locs 0 0 (z_qi below D (z_Kt ca) (z_K ad ca q) A s args o) (F0 m 39 ls []) := by
  obtain ⟨hx, hb, hr, hlk, hml, hown, hts, hK, hA⟩ := id C0
  intro H locs ls hw hl
  refine lv_iconst (v := (0 : Int32)) hx hb d_De_formOfSum_39 (by decide) ?_
  have ho := Option.some.inj h
  subst ho
  exact z_rti C0 hw d_De_formOfSum_40
set_option maxHeartbeats 4000000 in
set_option maxRecDepth 100000 in
theorem c_De_formOfSum {l : Launch} {D : va_G} {ad : Nat → Nat} {ca : Nat → ClassId} (x0 : Int32) (q : z_Sg) (o : Int32) (h : f_De_formOfSum x0 q = some o) : z_ci l y_De_formOfSum b_De_formOfSum 1 (some .int) 0 0 D (z_Kt ca) (z_K ad ca q) (z_K ad ca q) [.int x0] o := by
  refine z_ci_of (own := z_RDe) (by decide) rfl ?_
  intro p e s m below meth c A C0 hw
  obtain ⟨hx, hb, hr, hlk, hml, hown, hts, hK, hA⟩ := id C0
  generalize hH : s.heap = H at hw ⊢
  generalize hlo : ([] : List Loc) = locs at hw ⊢
  refine z_entry (lv := [(0, .int x0)]) (Nat.le_of_ble_eq_true rfl) rfl (fun ls hl => ?_)
  unfold f_De_formOfSum at h
  refine lv_iload_n hx hb d_De_formOfSum_0 rfl (lv_at hl 0 rfl) ?_
  by_cases c1 : x0 = (4 : Int32)
  · have h := ok_t h c1
    refine lv_tableIn (off := 31) (tgt := 32) hx hb d_De_formOfSum_1 (by rw [c1]; decide) (by rw [c1]; decide) (by rw [c1]; rfl) (by decide) ?_
    refine lv_bipush (v := (8 : Int32)) hx hb d_De_formOfSum_32 (by decide) ?_
    have ho := Option.some.inj h
    subst ho
    exact z_rti C0 hw d_De_formOfSum_34
  have h := ok_f h c1
  by_cases c2 : x0 = (5 : Int32)
  · have h := ok_t h c2
    refine lv_tableIn (off := 34) (tgt := 35) hx hb d_De_formOfSum_1 (by rw [c2]; decide) (by rw [c2]; decide) (by rw [c2]; rfl) (by decide) ?_
    refine lv_sipush (v := (128 : Int32)) hx hb d_De_formOfSum_35 (by decide) ?_
    have ho := Option.some.inj h
    subst ho
    exact z_rti C0 hw d_De_formOfSum_38
  have h := ok_f h c2
  by_cases c3 : x0 = (6 : Int32)
  · have h := ok_t h c3
    refine lv_tableIn (off := 38) (tgt := 39) hx hb d_De_formOfSum_1 (by rw [c3]; decide) (by rw [c3]; decide) (by rw [c3]; rfl) (by decide) ?_
    exact w_De_formOfSum_39 o C0 q h H locs ls hw (lv_sub hl [] rfl)
  have h := ok_f h c3
  by_cases c4 : x0 = (7 : Int32)
  · have h := ok_t h c4
    refine lv_tableIn (off := 38) (tgt := 39) hx hb d_De_formOfSum_1 (by rw [c4]; decide) (by rw [c4]; decide) (by rw [c4]; rfl) (by decide) ?_
    exact w_De_formOfSum_39 o C0 q h H locs ls hw (lv_sub hl [] rfl)
  have h := ok_f h c4
  refine lv_tableOut (tgt := 41) hx hb d_De_formOfSum_1 (by have zc1 := lv_neT c1 (a := 4) rfl; have zc2 := lv_neT c2 (a := 5) rfl; have zc3 := lv_neT c3 (a := 6) rfl; have zc4 := lv_neT c4 (a := 7) rfl; omega) (by decide) ?_
  refine lv_iconst (v := (2 : Int32)) hx hb d_De_formOfSum_41 (by decide) ?_
  have ho := Option.some.inj h
  subst ho
  exact z_rti C0 hw d_De_formOfSum_42
