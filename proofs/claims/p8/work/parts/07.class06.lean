def k_Ar_settleRotation_79 (t1 : Int32) (t2 : Int32) (t3 : Int32) (q : z_Sg) : Option z_Sg :=
  (f_Ar_settle t1 t2 t3 q).bind (fun r7 => some r7)
def k_Ar_settleRotation_64 (x6 : Int32) (x11 : Int32) (t1 : Int32) (q : z_Sg) : Option z_Sg :=
  if x6 = (1 : Int32) then (k_Ar_settleRotation_79 t1 x11 (0 : Int32) q) else (k_Ar_settleRotation_79 t1 x11 (2048 : Int32) q)
def k_Ar_settleRotation_28 (x4 : Int64) (x6 : Int32) (t0 : Int64) (t1 : Int64) (q : z_Sg) : Option z_Sg :=
  z_nm ((t0 ^^^ t1)) (fun n3 => z_nm (((((x4 &&& (1 : Int64)).toInt32) * (1 : Int32)) ||| (((n3 &&& (1 : Int64)).toInt32) * (2048 : Int32)))) (fun n4 => if x6 = (1 : Int32) then (k_Ar_settleRotation_64 x6 n4 (2049 : Int32) q) else (k_Ar_settleRotation_64 x6 n4 (1 : Int32) q)))
def f_Ar_settleRotation (x1 : Int32) (x2 : Int64) (x4 : Int64) (x6 : Int32) (x7 : Int32) (q : z_Sg) : Option z_Sg :=
  z_nm (((8 : Int32) * x7)) (fun n1 => if x1 = 0 then (k_Ar_settleRotation_28 x4 x6 (z_lushr x2 (n1 - (1 : Int32))) (z_lushr x2 (n1 - (2 : Int32))) q) else (k_Ar_settleRotation_28 x4 x6 (z_lushr x2 (n1 - (1 : Int32))) x4 q))
set_option maxHeartbeats 4000000 in
set_option maxRecDepth 100000 in
theorem w_Ar_settleRotation_79 {p : Program} {l : Launch} {e : Env} {s : State} {m : MethodId} {args : Array Value} {below : List Frame} {meth : Method} {c : Code} {D : va_G} {A : Nat → Prop} {ad : Nat → Nat} {ca : Nat → ClassId} (o : z_Sg) (C0 : z_cx z_RAr b_Ar_settleRotation 12 none D (z_Kt ca) A p s m args meth c) (q : z_Sg) (t1 : Int32) (t2 : Int32) (t3 : Int32) (h : k_Ar_settleRotation_79 t1 t2 t3 q = some o) : ∀ (H : Heap) (locs : List Loc) (ls : Array Slot), z_wd D (z_K ad ca q) A s H locs → lv_has ls 12 [] → W p l e (z_rm 1 24) s m args below meth c H locs 0 0 (z_qv below D (z_Kt ca) (z_K ad ca o) A s args) (F0 m 79 ls [.int t3, .int t2, .int t1, .ref (ad 9)]) := by
  obtain ⟨hx, hb, hr, hlk, hml, hown, hts, hK, hA⟩ := id C0
  intro H locs ls hw hl
  obtain ⟨r7, er7, h⟩ := ok_b h
  refine z_vv (rest := []) C0 hw (c_Ar_settle t1 t2 t3 q r7 er7) mw_Ar_settle ml_Ar_32 9 rfl ⟨Nat.le_of_ble_eq_true rfl, Nat.le_of_ble_eq_true rfl⟩ ⟨Nat.le_refl 0, Nat.le_refl 0⟩ rfl hl.1 rfl (Nat.le_of_ble_eq_true rfl) d_Ar_settleRotation_79 (fun H locs hw => ?_)
  have ho := Option.some.inj h
  subst ho
  exact z_rtv C0 hw d_Ar_settleRotation_82
set_option maxHeartbeats 4000000 in
set_option maxRecDepth 100000 in
theorem w_Ar_settleRotation_64 {p : Program} {l : Launch} {e : Env} {s : State} {m : MethodId} {args : Array Value} {below : List Frame} {meth : Method} {c : Code} {D : va_G} {A : Nat → Prop} {ad : Nat → Nat} {ca : Nat → ClassId} (o : z_Sg) (C0 : z_cx z_RAr b_Ar_settleRotation 12 none D (z_Kt ca) A p s m args meth c) (q : z_Sg) (x6 : Int32) (x11 : Int32) (t1 : Int32) (h : k_Ar_settleRotation_64 x6 x11 t1 q = some o) : ∀ (H : Heap) (locs : List Loc) (ls : Array Slot), z_wd D (z_K ad ca q) A s H locs → lv_has ls 12 [(6, .int x6), (11, .int x11)] → W p l e (z_rm 1 24) s m args below meth c H locs 0 0 (z_qv below D (z_Kt ca) (z_K ad ca o) A s args) (F0 m 64 ls [.int t1, .ref (ad 9)]) := by
  obtain ⟨hx, hb, hr, hlk, hml, hown, hts, hK, hA⟩ := id C0
  intro H locs ls hw hl
  refine lv_iload hx hb d_Ar_settleRotation_64 (lv_at hl 1 rfl) ?_
  refine lv_iload hx hb d_Ar_settleRotation_66 (lv_at hl 0 rfl) ?_
  refine lv_iconst (v := (1 : Int32)) hx hb d_Ar_settleRotation_68 (by decide) ?_
  refine lv_icmp_ne (tgt := 76) hx hb d_Ar_settleRotation_69 (by decide) (fun c6 => ?_) (fun c6 => ?_)
  · have h := ok_f h c6
    refine lv_sipush (v := (2048 : Int32)) hx hb d_Ar_settleRotation_76 (by decide) ?_
    exact w_Ar_settleRotation_79 o C0 q t1 x11 (2048 : Int32) h H locs ls hw (lv_sub hl [] rfl)
  · have h := ok_t h c6
    refine lv_iconst (v := (0 : Int32)) hx hb d_Ar_settleRotation_72 (by decide) ?_
    refine lv_goto (tgt := 79) hx hb d_Ar_settleRotation_73 (by decide) ?_
    exact w_Ar_settleRotation_79 o C0 q t1 x11 (0 : Int32) h H locs ls hw (lv_sub hl [] rfl)
set_option maxHeartbeats 4000000 in
set_option maxRecDepth 100000 in
theorem w_Ar_settleRotation_28 {p : Program} {l : Launch} {e : Env} {s : State} {m : MethodId} {args : Array Value} {below : List Frame} {meth : Method} {c : Code} {D : va_G} {A : Nat → Prop} {ad : Nat → Nat} {ca : Nat → ClassId} (o : z_Sg) (C0 : z_cx z_RAr b_Ar_settleRotation 12 none D (z_Kt ca) A p s m args meth c) (q : z_Sg) (x4 : Int64) (x6 : Int32) (t0 : Int64) (t1 : Int64) (h : k_Ar_settleRotation_28 x4 x6 t0 t1 q = some o) : ∀ (H : Heap) (locs : List Loc) (ls : Array Slot), z_wd D (z_K ad ca q) A s H locs → lv_has ls 12 [(0, .ref (ad 9)), (4, .long x4), (6, .int x6)] → W p l e (z_rm 1 24) s m args below meth c H locs 0 0 (z_qv below D (z_Kt ca) (z_K ad ca o) A s args) (F0 m 28 ls [.long t1, .long t0]) := by
  obtain ⟨hx, hb, hr, hlk, hml, hown, hts, hK, hA⟩ := id C0
  intro H locs ls hw hl
  refine lv_lxor hx hb d_Ar_settleRotation_28 ?_
  obtain ⟨n3, en3, h⟩ := ok_n h
  refine z_tl en3 ?_
  refine lv_lstore (lv' := [(9, .long n3), (0, .ref (ad 9)), (4, .long x4), (6, .int x6)]) hx hb d_Ar_settleRotation_29 hl (by decide) rfl (fun ls hl => ?_)
  refine lv_lload hx hb d_Ar_settleRotation_31 (lv_at hl 2 rfl) ?_
  refine lv_lconst (v := (1 : Int64)) hx hb d_Ar_settleRotation_33 (by decide) ?_
  refine lv_land hx hb d_Ar_settleRotation_34 ?_
  refine lv_l2i hx hb d_Ar_settleRotation_35 rfl ?_
  refine lv_iconst (v := (1 : Int32)) hx hb d_Ar_settleRotation_36 (by decide) ?_
  refine lv_imul hx hb d_Ar_settleRotation_37 ?_
  refine lv_lload hx hb d_Ar_settleRotation_38 (lv_at hl 0 rfl) ?_
  refine lv_lconst (v := (1 : Int64)) hx hb d_Ar_settleRotation_40 (by decide) ?_
  refine lv_land hx hb d_Ar_settleRotation_41 ?_
  refine lv_l2i hx hb d_Ar_settleRotation_42 rfl ?_
  refine lv_sipush (v := (2048 : Int32)) hx hb d_Ar_settleRotation_43 (by decide) ?_
  refine lv_imul hx hb d_Ar_settleRotation_46 ?_
  refine lv_ior hx hb d_Ar_settleRotation_47 ?_
  obtain ⟨n4, en4, h⟩ := ok_n h
  refine z_ti en4 ?_
  refine lv_istore (lv' := [(11, .int n4), (9, .long n3), (0, .ref (ad 9)), (4, .long x4), (6, .int x6)]) hx hb d_Ar_settleRotation_48 hl (by decide) rfl (fun ls hl => ?_)
  refine lv_aload_n hx hb d_Ar_settleRotation_50 rfl (lv_at hl 2 rfl) ?_
  refine lv_iload hx hb d_Ar_settleRotation_51 (lv_at hl 4 rfl) ?_
  refine lv_iconst (v := (1 : Int32)) hx hb d_Ar_settleRotation_53 (by decide) ?_
  refine lv_icmp_ne (tgt := 63) hx hb d_Ar_settleRotation_54 (by decide) (fun c5 => ?_) (fun c5 => ?_)
  · have h := ok_f h c5
    refine lv_iconst (v := (1 : Int32)) hx hb d_Ar_settleRotation_63 (by decide) ?_
    exact w_Ar_settleRotation_64 o C0 q x6 n4 (1 : Int32) h H locs ls hw (lv_sub hl [4, 0] rfl)
  · have h := ok_t h c5
    refine lv_sipush (v := (2049 : Int32)) hx hb d_Ar_settleRotation_57 (by decide) ?_
    refine lv_goto (tgt := 64) hx hb d_Ar_settleRotation_60 (by decide) ?_
    exact w_Ar_settleRotation_64 o C0 q x6 n4 (2049 : Int32) h H locs ls hw (lv_sub hl [4, 0] rfl)
set_option maxHeartbeats 4000000 in
set_option maxRecDepth 100000 in
theorem c_Ar_settleRotation {l : Launch} {D : va_G} {ad : Nat → Nat} {ca : Nat → ClassId} (x1 : Int32) (x2 : Int64) (x4 : Int64) (x6 : Int32) (x7 : Int32) (q : z_Sg) (o : z_Sg) (h : f_Ar_settleRotation x1 x2 x4 x6 x7 q = some o) : z_cv l y_Ar_settleRotation b_Ar_settleRotation 12 none 1 24 D (z_Kt ca) (z_K ad ca q) (z_K ad ca o) [.ref (ad 9), .int x1, .long x2, .long x4, .int x6, .int x7] := by
  refine z_cv_of (own := z_RAr) (by decide) rfl ?_
  intro p e s m below meth c A C0 hw
  obtain ⟨hx, hb, hr, hlk, hml, hown, hts, hK, hA⟩ := id C0
  generalize hH : s.heap = H at hw ⊢
  generalize hlo : ([] : List Loc) = locs at hw ⊢
  refine z_entry (lv := [(0, .ref (ad 9)), (1, .int x1), (2, .long x2), (4, .long x4), (6, .int x6), (7, .int x7)]) (Nat.le_of_ble_eq_true rfl) rfl (fun ls hl => ?_)
  unfold f_Ar_settleRotation at h
  refine lv_bipush (v := (8 : Int32)) hx hb d_Ar_settleRotation_0 (by decide) ?_
  refine lv_iload hx hb d_Ar_settleRotation_2 (lv_at hl 5 rfl) ?_
  refine lv_imul hx hb d_Ar_settleRotation_4 ?_
  obtain ⟨n1, en1, h⟩ := ok_n h
  refine z_ti en1 ?_
  refine lv_istore (lv' := [(8, .int n1), (0, .ref (ad 9)), (1, .int x1), (2, .long x2), (4, .long x4), (6, .int x6), (7, .int x7)]) hx hb d_Ar_settleRotation_5 hl (by decide) rfl (fun ls hl => ?_)
  refine lv_lload_n hx hb d_Ar_settleRotation_7 rfl (lv_at hl 3 rfl) ?_
  refine lv_iload hx hb d_Ar_settleRotation_8 (lv_at hl 0 rfl) ?_
  refine lv_iconst (v := (1 : Int32)) hx hb d_Ar_settleRotation_10 (by decide) ?_
  refine lv_isub hx hb d_Ar_settleRotation_11 ?_
  refine lv_lushr (v := (z_lushr x2 (n1 - (1 : Int32)))) hx hb d_Ar_settleRotation_12 rfl ?_
  refine lv_iload_n hx hb d_Ar_settleRotation_13 rfl (lv_at hl 2 rfl) ?_
  refine lv_if_eq (tgt := 22) hx hb d_Ar_settleRotation_14 (by decide) (fun c2 => ?_) (fun c2 => ?_)
  · have h := ok_t h c2
    refine lv_lload_n hx hb d_Ar_settleRotation_22 rfl (lv_at hl 3 rfl) ?_
    refine lv_iload hx hb d_Ar_settleRotation_23 (lv_at hl 0 rfl) ?_
    refine lv_iconst (v := (2 : Int32)) hx hb d_Ar_settleRotation_25 (by decide) ?_
    refine lv_isub hx hb d_Ar_settleRotation_26 ?_
    refine lv_lushr (v := (z_lushr x2 (n1 - (2 : Int32)))) hx hb d_Ar_settleRotation_27 rfl ?_
    exact w_Ar_settleRotation_28 o C0 q x4 x6 (z_lushr x2 (n1 - (1 : Int32))) (z_lushr x2 (n1 - (2 : Int32))) h H locs ls hw (lv_sub hl [1, 4, 5] rfl)
  · have h := ok_f h c2
    refine lv_lload hx hb d_Ar_settleRotation_17 (lv_at hl 4 rfl) ?_
    refine lv_goto (tgt := 28) hx hb d_Ar_settleRotation_19 (by decide) ?_
    exact w_Ar_settleRotation_28 o C0 q x4 x6 (z_lushr x2 (n1 - (1 : Int32))) x4 h H locs ls hw (lv_sub hl [1, 4, 5] rfl)
def k_Ar_rotate_78 (x4 : Int32) (x5 : Int32) (x8 : Int64) (t1 : Int32) (t2 : Int64) (t3 : Int64) (q : z_Sg) : Option (Int64 × z_Sg) :=
  (f_Ar_settleRotation t1 t2 t3 x4 x5 q).bind (fun r9 => some (x8, r9))
def k_Ar_rotate_56 (x1 : Int32) (x4 : Int32) (x5 : Int32) (x6 : Int32) (t0 : Int64) (q : z_Sg) : Option (Int64 × z_Sg) :=
  if x1 = 0 then (k_Ar_rotate_78 x4 x5 t0 x1 t0 (z_lushr t0 (x6 - (1 : Int32))) q) else (k_Ar_rotate_78 x4 x5 t0 x1 t0 t0 q)
def k_Ar_rotate_24 (x1 : Int32) (x2 : Int64) (x4 : Int32) (x5 : Int32) (x6 : Int32) (t0 : Int32) (q : z_Sg) : Option (Int64 × z_Sg) :=
  if x6 = 0 then none else (z_nm ((t0 - t0 / x6 * x6)) (fun n5 => if n5 = 0 then (k_Ar_rotate_56 x1 x4 x5 x6 x2 q) else ((f_Ar_maskOf x5 q).bind (fun r7 => k_Ar_rotate_56 x1 x4 x5 x6 (((z_lshl x2 n5) ||| (z_lushr x2 (x6 - n5))) &&& r7) q))))
def f_Ar_rotate (x1 : Int32) (x2 : Int64) (x4 : Int32) (x5 : Int32) (q : z_Sg) : Option (Int64 × z_Sg) :=
  z_nm (((8 : Int32) * x5)) (fun n1 => if x1 = 0 then (if n1 = 0 then none else (k_Ar_rotate_24 x1 x2 x4 x5 n1 (n1 - (x4 - x4 / n1 * n1)) q)) else (k_Ar_rotate_24 x1 x2 x4 x5 n1 x4 q))
set_option maxHeartbeats 4000000 in
set_option maxRecDepth 100000 in
theorem w_Ar_rotate_78 {p : Program} {l : Launch} {e : Env} {s : State} {m : MethodId} {args : Array Value} {below : List Frame} {meth : Method} {c : Code} {D : va_G} {A : Nat → Prop} {ad : Nat → Nat} {ca : Nat → ClassId} (o : (Int64 × z_Sg)) (C0 : z_cx z_RAr b_Ar_rotate 10 (some .long) D (z_Kt ca) A p s m args meth c) (q : z_Sg) (x4 : Int32) (x5 : Int32) (x8 : Int64) (t1 : Int32) (t2 : Int64) (t3 : Int64) (h : k_Ar_rotate_78 x4 x5 x8 t1 t2 t3 q = some o) : ∀ (H : Heap) (locs : List Loc) (ls : Array Slot), z_wd D (z_K ad ca q) A s H locs → lv_has ls 10 [(4, .int x4), (5, .int x5), (8, .long x8)] → W p l e (z_rm 2 55) s m args below meth c H locs 0 0 (z_ql below D (z_Kt ca) (z_K ad ca o.2) A s args o.1) (F0 m 78 ls [.long t3, .long t2, .int t1, .ref (ad 9)]) := by
  obtain ⟨hx, hb, hr, hlk, hml, hown, hts, hK, hA⟩ := id C0
  intro H locs ls hw hl
  refine lv_iload hx hb d_Ar_rotate_78 (lv_at hl 0 rfl) ?_
  refine lv_iload hx hb d_Ar_rotate_80 (lv_at hl 1 rfl) ?_
  obtain ⟨r9, er9, h⟩ := ok_b h
  refine z_vv (rest := []) C0 hw (c_Ar_settleRotation t1 t2 t3 x4 x5 q r9 er9) mw_Ar_settleRotation ml_Ar_71 9 rfl ⟨Nat.le_of_ble_eq_true rfl, Nat.le_of_ble_eq_true rfl⟩ ⟨Nat.le_refl 0, Nat.le_refl 0⟩ rfl hl.1 rfl (Nat.le_of_ble_eq_true rfl) d_Ar_rotate_82 (fun H locs hw => ?_)
  refine lv_lload hx hb d_Ar_rotate_85 (lv_at hl 2 rfl) ?_
  have ho := Option.some.inj h
  subst ho
  exact z_rtl C0 hw d_Ar_rotate_87
set_option maxHeartbeats 4000000 in
set_option maxRecDepth 100000 in
theorem w_Ar_rotate_56 {p : Program} {l : Launch} {e : Env} {s : State} {m : MethodId} {args : Array Value} {below : List Frame} {meth : Method} {c : Code} {D : va_G} {A : Nat → Prop} {ad : Nat → Nat} {ca : Nat → ClassId} (o : (Int64 × z_Sg)) (C0 : z_cx z_RAr b_Ar_rotate 10 (some .long) D (z_Kt ca) A p s m args meth c) (q : z_Sg) (x1 : Int32) (x4 : Int32) (x5 : Int32) (x6 : Int32) (t0 : Int64) (h : k_Ar_rotate_56 x1 x4 x5 x6 t0 q = some o) : ∀ (H : Heap) (locs : List Loc) (ls : Array Slot), z_wd D (z_K ad ca q) A s H locs → lv_has ls 10 [(0, .ref (ad 9)), (1, .int x1), (4, .int x4), (5, .int x5), (6, .int x6)] → W p l e (z_rm 2 55) s m args below meth c H locs 0 0 (z_ql below D (z_Kt ca) (z_K ad ca o.2) A s args o.1) (F0 m 56 ls [.long t0]) := by
  obtain ⟨hx, hb, hr, hlk, hml, hown, hts, hK, hA⟩ := id C0
  intro H locs ls hw hl
  refine lv_lstore (lv' := [(8, .long t0), (0, .ref (ad 9)), (1, .int x1), (4, .int x4), (5, .int x5), (6, .int x6)]) hx hb d_Ar_rotate_56 hl (by decide) rfl (fun ls hl => ?_)
  refine lv_aload_n hx hb d_Ar_rotate_58 rfl (lv_at hl 1 rfl) ?_
  refine lv_iload_n hx hb d_Ar_rotate_59 rfl (lv_at hl 2 rfl) ?_
  refine lv_lload hx hb d_Ar_rotate_60 (lv_at hl 0 rfl) ?_
  refine lv_iload_n hx hb d_Ar_rotate_62 rfl (lv_at hl 2 rfl) ?_
  refine lv_if_eq (tgt := 71) hx hb d_Ar_rotate_63 (by decide) (fun c8 => ?_) (fun c8 => ?_)
  · have h := ok_t h c8
    refine lv_lload hx hb d_Ar_rotate_71 (lv_at hl 0 rfl) ?_
    refine lv_iload hx hb d_Ar_rotate_73 (lv_at hl 5 rfl) ?_
    refine lv_iconst (v := (1 : Int32)) hx hb d_Ar_rotate_75 (by decide) ?_
    refine lv_isub hx hb d_Ar_rotate_76 ?_
    refine lv_lushr (v := (z_lushr t0 (x6 - (1 : Int32)))) hx hb d_Ar_rotate_77 rfl ?_
    exact w_Ar_rotate_78 o C0 q x4 x5 t0 x1 t0 (z_lushr t0 (x6 - (1 : Int32))) h H locs ls hw (lv_sub hl [3, 4, 0] rfl)
  · have h := ok_f h c8
    refine lv_lload hx hb d_Ar_rotate_66 (lv_at hl 0 rfl) ?_
    refine lv_goto (tgt := 78) hx hb d_Ar_rotate_68 (by decide) ?_
    exact w_Ar_rotate_78 o C0 q x4 x5 t0 x1 t0 t0 h H locs ls hw (lv_sub hl [3, 4, 0] rfl)
set_option maxHeartbeats 4000000 in
set_option maxRecDepth 100000 in
theorem w_Ar_rotate_24 {p : Program} {l : Launch} {e : Env} {s : State} {m : MethodId} {args : Array Value} {below : List Frame} {meth : Method} {c : Code} {D : va_G} {A : Nat → Prop} {ad : Nat → Nat} {ca : Nat → ClassId} (o : (Int64 × z_Sg)) (C0 : z_cx z_RAr b_Ar_rotate 10 (some .long) D (z_Kt ca) A p s m args meth c) (q : z_Sg) (x1 : Int32) (x2 : Int64) (x4 : Int32) (x5 : Int32) (x6 : Int32) (t0 : Int32) (h : k_Ar_rotate_24 x1 x2 x4 x5 x6 t0 q = some o) : ∀ (H : Heap) (locs : List Loc) (ls : Array Slot), z_wd D (z_K ad ca q) A s H locs → lv_has ls 10 [(0, .ref (ad 9)), (1, .int x1), (2, .long x2), (4, .int x4), (5, .int x5), (6, .int x6)] → W p l e (z_rm 2 55) s m args below meth c H locs 0 0 (z_ql below D (z_Kt ca) (z_K ad ca o.2) A s args o.1) (F0 m 24 ls [.int t0]) := by
  obtain ⟨hx, hb, hr, hlk, hml, hown, hts, hK, hA⟩ := id C0
  intro H locs ls hw hl
  refine lv_iload hx hb d_Ar_rotate_24 (lv_at hl 5 rfl) ?_
  obtain ⟨b4, h⟩ := ok_g h
  refine lv_irem hx hb d_Ar_rotate_26 b4 ?_
  obtain ⟨n5, en5, h⟩ := ok_n h
  refine z_ti en5 ?_
  refine lv_istore (lv' := [(7, .int n5), (0, .ref (ad 9)), (1, .int x1), (2, .long x2), (4, .int x4), (5, .int x5), (6, .int x6)]) hx hb d_Ar_rotate_27 hl (by decide) rfl (fun ls hl => ?_)
  refine lv_iload hx hb d_Ar_rotate_29 (lv_at hl 0 rfl) ?_
  refine lv_if_ne (tgt := 38) hx hb d_Ar_rotate_31 (by decide) (fun c6 => ?_) (fun c6 => ?_)
  · have h := ok_f h c6
    refine lv_lload_n hx hb d_Ar_rotate_38 rfl (lv_at hl 3 rfl) ?_
    refine lv_iload hx hb d_Ar_rotate_39 (lv_at hl 0 rfl) ?_
    refine lv_lshl (v := (z_lshl x2 n5)) hx hb d_Ar_rotate_41 rfl ?_
    refine lv_lload_n hx hb d_Ar_rotate_42 rfl (lv_at hl 3 rfl) ?_
    refine lv_iload hx hb d_Ar_rotate_43 (lv_at hl 6 rfl) ?_
    refine lv_iload hx hb d_Ar_rotate_45 (lv_at hl 0 rfl) ?_
    refine lv_isub hx hb d_Ar_rotate_47 ?_
    refine lv_lushr (v := (z_lushr x2 (x6 - n5))) hx hb d_Ar_rotate_48 rfl ?_
    refine lv_lor hx hb d_Ar_rotate_49 ?_
    refine lv_iload hx hb d_Ar_rotate_50 (lv_at hl 5 rfl) ?_
    obtain ⟨r7, er7, h⟩ := ok_b h
    refine z_sl (rest := [.long ((z_lshl x2 n5) ||| (z_lushr x2 (x6 - n5)))]) C0 hw (c_Ar_maskOf x5 q r7 er7) mw_Ar_maskOf ml_Ar_36 ⟨Nat.le_of_ble_eq_true rfl, Nat.le_of_ble_eq_true rfl⟩ ⟨Nat.le_refl 0, Nat.le_refl 0⟩ rfl hl.1 rfl (Nat.le_of_ble_eq_true rfl) d_Ar_rotate_52 (fun H locs hw => ?_)
    refine lv_land hx hb d_Ar_rotate_55 ?_
    exact w_Ar_rotate_56 o C0 q x1 x4 x5 x6 (((z_lshl x2 n5) ||| (z_lushr x2 (x6 - n5))) &&& r7) h H locs ls hw (lv_sub hl [1, 2, 4, 5, 6] rfl)
  · have h := ok_t h c6
    refine lv_lload_n hx hb d_Ar_rotate_34 rfl (lv_at hl 3 rfl) ?_
    refine lv_goto (tgt := 56) hx hb d_Ar_rotate_35 (by decide) ?_
    exact w_Ar_rotate_56 o C0 q x1 x4 x5 x6 x2 h H locs ls hw (lv_sub hl [1, 2, 4, 5, 6] rfl)
set_option maxHeartbeats 4000000 in
set_option maxRecDepth 100000 in
theorem c_Ar_rotate {l : Launch} {D : va_G} {ad : Nat → Nat} {ca : Nat → ClassId} (x1 : Int32) (x2 : Int64) (x4 : Int32) (x5 : Int32) (q : z_Sg) (o : (Int64 × z_Sg)) (h : f_Ar_rotate x1 x2 x4 x5 q = some o) : z_cl l y_Ar_rotate b_Ar_rotate 10 (some .long) 2 55 D (z_Kt ca) (z_K ad ca q) (z_K ad ca o.2) [.ref (ad 9), .int x1, .long x2, .int x4, .int x5] o.1 := by
  refine z_cl_of (own := z_RAr) (by decide) rfl ?_
  intro p e s m below meth c A C0 hw
  obtain ⟨hx, hb, hr, hlk, hml, hown, hts, hK, hA⟩ := id C0
  generalize hH : s.heap = H at hw ⊢
  generalize hlo : ([] : List Loc) = locs at hw ⊢
  refine z_entry (lv := [(0, .ref (ad 9)), (1, .int x1), (2, .long x2), (4, .int x4), (5, .int x5)]) (Nat.le_of_ble_eq_true rfl) rfl (fun ls hl => ?_)
  unfold f_Ar_rotate at h
  refine lv_bipush (v := (8 : Int32)) hx hb d_Ar_rotate_0 (by decide) ?_
  refine lv_iload hx hb d_Ar_rotate_2 (lv_at hl 4 rfl) ?_
  refine lv_imul hx hb d_Ar_rotate_4 ?_
  obtain ⟨n1, en1, h⟩ := ok_n h
  refine z_ti en1 ?_
  refine lv_istore (lv' := [(6, .int n1), (0, .ref (ad 9)), (1, .int x1), (2, .long x2), (4, .int x4), (5, .int x5)]) hx hb d_Ar_rotate_5 hl (by decide) rfl (fun ls hl => ?_)
  refine lv_iload_n hx hb d_Ar_rotate_7 rfl (lv_at hl 2 rfl) ?_
  refine lv_if_eq (tgt := 16) hx hb d_Ar_rotate_8 (by decide) (fun c2 => ?_) (fun c2 => ?_)
  · have h := ok_t h c2
    refine lv_iload hx hb d_Ar_rotate_16 (lv_at hl 0 rfl) ?_
    refine lv_iload hx hb d_Ar_rotate_18 (lv_at hl 4 rfl) ?_
    refine lv_iload hx hb d_Ar_rotate_20 (lv_at hl 0 rfl) ?_
    obtain ⟨b3, h⟩ := ok_g h
    refine lv_irem hx hb d_Ar_rotate_22 b3 ?_
    refine lv_isub hx hb d_Ar_rotate_23 ?_
    exact w_Ar_rotate_24 o C0 q x1 x2 x4 x5 n1 (n1 - (x4 - x4 / n1 * n1)) h H locs ls hw (lv_sub hl [1, 2, 3, 4, 5, 0] rfl)
  · have h := ok_f h c2
    refine lv_iload hx hb d_Ar_rotate_11 (lv_at hl 4 rfl) ?_
    refine lv_goto (tgt := 24) hx hb d_Ar_rotate_13 (by decide) ?_
    exact w_Ar_rotate_24 o C0 q x1 x2 x4 x5 n1 x4 h H locs ls hw (lv_sub hl [1, 2, 3, 4, 5, 0] rfl)
def k_Ar_rotateThroughCarry_97 (ih41 : Int32 × Int32 × Int32 × Int32 × Int32 × Int64 × Int64 × Int64 × Int32 × z_Sg → Option (Int64 × z_Sg)) (x1 : Int32) (x4 : Int32) (x5 : Int32) (x6 : Int32) (x7 : Int32) (x8 : Int64) (x14 : Int32) (x15 : Int64) (t0 : Int64) (q : z_Sg) : Option (Int64 × z_Sg) :=
  z_nm (x14 + (1 : Int32)) (fun n10 => ih41 (x1, x4, x5, x6, x7, x8, x15, t0, n10, q))
def k_Ar_rotateThroughCarry_66 (ih41 : Int32 × Int32 × Int32 × Int32 × Int32 × Int64 × Int64 × Int64 × Int32 × z_Sg → Option (Int64 × z_Sg)) (x1 : Int32) (x4 : Int32) (x5 : Int32) (x6 : Int32) (x7 : Int32) (x8 : Int64) (x10 : Int64) (x12 : Int64) (x14 : Int32) (t0 : Int64) (q : z_Sg) : Option (Int64 × z_Sg) :=
  if x1 = 0 then (k_Ar_rotateThroughCarry_97 ih41 x1 x4 x5 x6 x7 x8 x14 t0 ((z_lushr x12 (1 : Int32)) ||| (z_lshl x10 (x6 - (1 : Int32)))) q) else (k_Ar_rotateThroughCarry_97 ih41 x1 x4 x5 x6 x7 x8 x14 t0 (((z_lshl x12 (1 : Int32)) ||| x10) &&& x8) q)
def kb_Ar_rotateThroughCarry_41 (ih41 : Int32 × Int32 × Int32 × Int32 × Int32 × Int64 × Int64 × Int64 × Int32 × z_Sg → Option (Int64 × z_Sg)) (x1 : Int32) (x4 : Int32) (x5 : Int32) (x6 : Int32) (x7 : Int32) (x8 : Int64) (x10 : Int64) (x12 : Int64) (x14 : Int32) (q : z_Sg) : Option (Int64 × z_Sg) :=
  if x7 ≤ x14 then ((f_Ar_settleRotation x1 x12 x10 x4 x5 q).bind (fun r7 => some (x12, r7))) else (if x1 = 0 then (k_Ar_rotateThroughCarry_66 ih41 x1 x4 x5 x6 x7 x8 x10 x12 x14 (x12 &&& (1 : Int64)) q) else (k_Ar_rotateThroughCarry_66 ih41 x1 x4 x5 x6 x7 x8 x10 x12 x14 (z_lushr x12 (x6 - (1 : Int32))) q))
def k_Ar_rotateThroughCarry_41 (x1 : Int32) (x4 : Int32) (x5 : Int32) (x6 : Int32) (x7 : Int32) (x8 : Int64) (x10 : Int64) (x12 : Int64) (x14 : Int32) (q : z_Sg) : Option (Int64 × z_Sg) := z_lo (fun ih41 a => kb_Ar_rotateThroughCarry_41 ih41 a.1 a.2.1 a.2.2.1 a.2.2.2.1 a.2.2.2.2.1 a.2.2.2.2.2.1 a.2.2.2.2.2.2.1 a.2.2.2.2.2.2.2.1 a.2.2.2.2.2.2.2.2.1 a.2.2.2.2.2.2.2.2.2) 2000 (x1, x4, x5, x6, x7, x8, x10, x12, x14, q)
def f_Ar_rotateThroughCarry (x1 : Int32) (x2 : Int64) (x4 : Int32) (x5 : Int32) (q : z_Sg) : Option (Int64 × z_Sg) :=
  z_nm (((8 : Int32) * x5)) (fun n1 => if (n1 + (1 : Int32)) = 0 then none else (z_nm ((x4 - x4 / (n1 + (1 : Int32)) * (n1 + (1 : Int32)))) (fun n3 => (f_Ar_maskOf x5 q).bind (fun r4 => z_nm ((((z_gI q 0) &&& (1 : Int32)).toInt64)) (fun n5 => k_Ar_rotateThroughCarry_41 x1 x4 x5 n1 n3 r4 n5 x2 (0 : Int32) q)))))
set_option maxHeartbeats 4000000 in
set_option maxRecDepth 100000 in
theorem w_Ar_rotateThroughCarry_97 {p : Program} {l : Launch} {e : Env} {s : State} {m : MethodId} {args : Array Value} {below : List Frame} {meth : Method} {c : Code} {D : va_G} {A : Nat → Prop} {ad : Nat → Nat} {ca : Nat → ClassId} (o : (Int64 × z_Sg)) (C0 : z_cx z_RAr b_Ar_rotateThroughCarry 17 (some .long) D (z_Kt ca) A p s m args meth c) (q : z_Sg) (ih41 : Int32 × Int32 × Int32 × Int32 × Int32 × Int64 × Int64 × Int64 × Int32 × z_Sg → Option (Int64 × z_Sg)) (hi41 : ∀ a : Int32 × Int32 × Int32 × Int32 × Int32 × Int64 × Int64 × Int64 × Int32 × z_Sg, ih41 a = some o → ∀ (H : Heap) (locs : List Loc) (ls : Array Slot), z_wd D (z_K ad ca a.2.2.2.2.2.2.2.2.2) A s H locs → lv_has ls 17 [(0, .ref (ad 9)), (1, .int a.1), (4, .int a.2.1), (5, .int a.2.2.1), (6, .int a.2.2.2.1), (7, .int a.2.2.2.2.1), (8, .long a.2.2.2.2.2.1), (10, .long a.2.2.2.2.2.2.1), (12, .long a.2.2.2.2.2.2.2.1), (14, .int a.2.2.2.2.2.2.2.2.1)] → W p l e (z_rm 2 55) s m args below meth c H locs 0 0 (z_ql below D (z_Kt ca) (z_K ad ca o.2) A s args o.1) (F0 m 41 ls [])) (x1 : Int32) (x4 : Int32) (x5 : Int32) (x6 : Int32) (x7 : Int32) (x8 : Int64) (x14 : Int32) (x15 : Int64) (t0 : Int64) (h : k_Ar_rotateThroughCarry_97 ih41 x1 x4 x5 x6 x7 x8 x14 x15 t0 q = some o) : ∀ (H : Heap) (locs : List Loc) (ls : Array Slot), z_wd D (z_K ad ca q) A s H locs → lv_has ls 17 [(0, .ref (ad 9)), (1, .int x1), (4, .int x4), (5, .int x5), (6, .int x6), (7, .int x7), (8, .long x8), (14, .int x14), (15, .long x15)] → W p l e (z_rm 2 55) s m args below meth c H locs 0 0 (z_ql below D (z_Kt ca) (z_K ad ca o.2) A s args o.1) (F0 m 97 ls [.long t0]) := by
  obtain ⟨hx, hb, hr, hlk, hml, hown, hts, hK, hA⟩ := id C0
  intro H locs ls hw hl
  refine lv_lstore (lv' := [(12, .long t0), (0, .ref (ad 9)), (1, .int x1), (4, .int x4), (5, .int x5), (6, .int x6), (7, .int x7), (8, .long x8), (14, .int x14), (15, .long x15)]) hx hb d_Ar_rotateThroughCarry_97 hl (by decide) rfl (fun ls hl => ?_)
  refine lv_lload hx hb d_Ar_rotateThroughCarry_99 (lv_at hl 9 rfl) ?_
  refine lv_lstore (lv' := [(10, .long x15), (12, .long t0), (0, .ref (ad 9)), (1, .int x1), (4, .int x4), (5, .int x5), (6, .int x6), (7, .int x7), (8, .long x8), (14, .int x14), (15, .long x15)]) hx hb d_Ar_rotateThroughCarry_101 hl (by decide) rfl (fun ls hl => ?_)
  obtain ⟨n10, en10, h⟩ := ok_n h
  refine lv_iinc (v := n10) (lv' := [(14, .int n10), (10, .long x15), (12, .long t0), (0, .ref (ad 9)), (1, .int x1), (4, .int x4), (5, .int x5), (6, .int x6), (7, .int x7), (8, .long x8), (15, .long x15)]) hx hb d_Ar_rotateThroughCarry_103 hl (k := 9) rfl (by rw [en10]; rfl) (by decide) rfl (fun ls hl => ?_)
  refine lv_goto (tgt := 41) hx hb d_Ar_rotateThroughCarry_106 (by decide) ?_
  exact hi41 (x1, x4, x5, x6, x7, x8, x15, t0, n10, q) h H locs ls hw (lv_sub hl [3, 4, 5, 6, 7, 8, 9, 1, 2, 0] rfl)
set_option maxHeartbeats 4000000 in
set_option maxRecDepth 100000 in
theorem w_Ar_rotateThroughCarry_66 {p : Program} {l : Launch} {e : Env} {s : State} {m : MethodId} {args : Array Value} {below : List Frame} {meth : Method} {c : Code} {D : va_G} {A : Nat → Prop} {ad : Nat → Nat} {ca : Nat → ClassId} (o : (Int64 × z_Sg)) (C0 : z_cx z_RAr b_Ar_rotateThroughCarry 17 (some .long) D (z_Kt ca) A p s m args meth c) (q : z_Sg) (ih41 : Int32 × Int32 × Int32 × Int32 × Int32 × Int64 × Int64 × Int64 × Int32 × z_Sg → Option (Int64 × z_Sg)) (hi41 : ∀ a : Int32 × Int32 × Int32 × Int32 × Int32 × Int64 × Int64 × Int64 × Int32 × z_Sg, ih41 a = some o → ∀ (H : Heap) (locs : List Loc) (ls : Array Slot), z_wd D (z_K ad ca a.2.2.2.2.2.2.2.2.2) A s H locs → lv_has ls 17 [(0, .ref (ad 9)), (1, .int a.1), (4, .int a.2.1), (5, .int a.2.2.1), (6, .int a.2.2.2.1), (7, .int a.2.2.2.2.1), (8, .long a.2.2.2.2.2.1), (10, .long a.2.2.2.2.2.2.1), (12, .long a.2.2.2.2.2.2.2.1), (14, .int a.2.2.2.2.2.2.2.2.1)] → W p l e (z_rm 2 55) s m args below meth c H locs 0 0 (z_ql below D (z_Kt ca) (z_K ad ca o.2) A s args o.1) (F0 m 41 ls [])) (x1 : Int32) (x4 : Int32) (x5 : Int32) (x6 : Int32) (x7 : Int32) (x8 : Int64) (x10 : Int64) (x12 : Int64) (x14 : Int32) (t0 : Int64) (h : k_Ar_rotateThroughCarry_66 ih41 x1 x4 x5 x6 x7 x8 x10 x12 x14 t0 q = some o) : ∀ (H : Heap) (locs : List Loc) (ls : Array Slot), z_wd D (z_K ad ca q) A s H locs → lv_has ls 17 [(0, .ref (ad 9)), (1, .int x1), (4, .int x4), (5, .int x5), (6, .int x6), (7, .int x7), (8, .long x8), (10, .long x10), (12, .long x12), (14, .int x14)] → W p l e (z_rm 2 55) s m args below meth c H locs 0 0 (z_ql below D (z_Kt ca) (z_K ad ca o.2) A s args o.1) (F0 m 66 ls [.long t0]) := by
  obtain ⟨hx, hb, hr, hlk, hml, hown, hts, hK, hA⟩ := id C0
  intro H locs ls hw hl
  refine lv_lstore (lv' := [(15, .long t0), (0, .ref (ad 9)), (1, .int x1), (4, .int x4), (5, .int x5), (6, .int x6), (7, .int x7), (8, .long x8), (10, .long x10), (12, .long x12), (14, .int x14)]) hx hb d_Ar_rotateThroughCarry_66 hl (by decide) rfl (fun ls hl => ?_)
  refine lv_iload_n hx hb d_Ar_rotateThroughCarry_68 rfl (lv_at hl 2 rfl) ?_
  refine lv_if_eq (tgt := 85) hx hb d_Ar_rotateThroughCarry_69 (by decide) (fun c9 => ?_) (fun c9 => ?_)
  · have h := ok_t h c9
    refine lv_lload hx hb d_Ar_rotateThroughCarry_85 (lv_at hl 9 rfl) ?_
    refine lv_iconst (v := (1 : Int32)) hx hb d_Ar_rotateThroughCarry_87 (by decide) ?_
    refine lv_lushr (v := (z_lushr x12 (1 : Int32))) hx hb d_Ar_rotateThroughCarry_88 rfl ?_
    refine lv_lload hx hb d_Ar_rotateThroughCarry_89 (lv_at hl 8 rfl) ?_
    refine lv_iload hx hb d_Ar_rotateThroughCarry_91 (lv_at hl 5 rfl) ?_
    refine lv_iconst (v := (1 : Int32)) hx hb d_Ar_rotateThroughCarry_93 (by decide) ?_
    refine lv_isub hx hb d_Ar_rotateThroughCarry_94 ?_
    refine lv_lshl (v := (z_lshl x10 (x6 - (1 : Int32)))) hx hb d_Ar_rotateThroughCarry_95 rfl ?_
    refine lv_lor hx hb d_Ar_rotateThroughCarry_96 ?_
    exact w_Ar_rotateThroughCarry_97 o C0 q ih41 hi41 x1 x4 x5 x6 x7 x8 x14 t0 ((z_lushr x12 (1 : Int32)) ||| (z_lshl x10 (x6 - (1 : Int32)))) h H locs ls hw (lv_sub hl [1, 2, 3, 4, 5, 6, 7, 10, 0] rfl)
  · have h := ok_f h c9
    refine lv_lload hx hb d_Ar_rotateThroughCarry_72 (lv_at hl 9 rfl) ?_
    refine lv_iconst (v := (1 : Int32)) hx hb d_Ar_rotateThroughCarry_74 (by decide) ?_
    refine lv_lshl (v := (z_lshl x12 (1 : Int32))) hx hb d_Ar_rotateThroughCarry_75 rfl ?_
    refine lv_lload hx hb d_Ar_rotateThroughCarry_76 (lv_at hl 8 rfl) ?_
    refine lv_lor hx hb d_Ar_rotateThroughCarry_78 ?_
    refine lv_lload hx hb d_Ar_rotateThroughCarry_79 (lv_at hl 7 rfl) ?_
    refine lv_land hx hb d_Ar_rotateThroughCarry_81 ?_
    refine lv_goto (tgt := 97) hx hb d_Ar_rotateThroughCarry_82 (by decide) ?_
    exact w_Ar_rotateThroughCarry_97 o C0 q ih41 hi41 x1 x4 x5 x6 x7 x8 x14 t0 (((z_lshl x12 (1 : Int32)) ||| x10) &&& x8) h H locs ls hw (lv_sub hl [1, 2, 3, 4, 5, 6, 7, 10, 0] rfl)
set_option maxHeartbeats 4000000 in
set_option maxRecDepth 100000 in
theorem wb_Ar_rotateThroughCarry_41 {p : Program} {l : Launch} {e : Env} {s : State} {m : MethodId} {args : Array Value} {below : List Frame} {meth : Method} {c : Code} {D : va_G} {A : Nat → Prop} {ad : Nat → Nat} {ca : Nat → ClassId} (o : (Int64 × z_Sg)) (C0 : z_cx z_RAr b_Ar_rotateThroughCarry 17 (some .long) D (z_Kt ca) A p s m args meth c) (q : z_Sg) (ih41 : Int32 × Int32 × Int32 × Int32 × Int32 × Int64 × Int64 × Int64 × Int32 × z_Sg → Option (Int64 × z_Sg)) (hi41 : ∀ a : Int32 × Int32 × Int32 × Int32 × Int32 × Int64 × Int64 × Int64 × Int32 × z_Sg, ih41 a = some o → ∀ (H : Heap) (locs : List Loc) (ls : Array Slot), z_wd D (z_K ad ca a.2.2.2.2.2.2.2.2.2) A s H locs → lv_has ls 17 [(0, .ref (ad 9)), (1, .int a.1), (4, .int a.2.1), (5, .int a.2.2.1), (6, .int a.2.2.2.1), (7, .int a.2.2.2.2.1), (8, .long a.2.2.2.2.2.1), (10, .long a.2.2.2.2.2.2.1), (12, .long a.2.2.2.2.2.2.2.1), (14, .int a.2.2.2.2.2.2.2.2.1)] → W p l e (z_rm 2 55) s m args below meth c H locs 0 0 (z_ql below D (z_Kt ca) (z_K ad ca o.2) A s args o.1) (F0 m 41 ls [])) (x1 : Int32) (x4 : Int32) (x5 : Int32) (x6 : Int32) (x7 : Int32) (x8 : Int64) (x10 : Int64) (x12 : Int64) (x14 : Int32) (h : kb_Ar_rotateThroughCarry_41 ih41 x1 x4 x5 x6 x7 x8 x10 x12 x14 q = some o) : ∀ (H : Heap) (locs : List Loc) (ls : Array Slot), z_wd D (z_K ad ca q) A s H locs → lv_has ls 17 [(0, .ref (ad 9)), (1, .int x1), (4, .int x4), (5, .int x5), (6, .int x6), (7, .int x7), (8, .long x8), (10, .long x10), (12, .long x12), (14, .int x14)] → W p l e (z_rm 2 55) s m args below meth c H locs 0 0 (z_ql below D (z_Kt ca) (z_K ad ca o.2) A s args o.1) (F0 m 41 ls []) := by
  obtain ⟨hx, hb, hr, hlk, hml, hown, hts, hK, hA⟩ := id C0
  intro H locs ls hw hl
  refine lv_iload hx hb d_Ar_rotateThroughCarry_41 (lv_at hl 9 rfl) ?_
  refine lv_iload hx hb d_Ar_rotateThroughCarry_43 (lv_at hl 5 rfl) ?_
  refine lv_icmp_ge (tgt := 109) hx hb d_Ar_rotateThroughCarry_45 (by decide) (fun c6 => ?_) (fun c6 => ?_)
  · have h := ok_t h c6
    refine lv_aload_n hx hb d_Ar_rotateThroughCarry_109 rfl (lv_at hl 0 rfl) ?_
    refine lv_iload_n hx hb d_Ar_rotateThroughCarry_110 rfl (lv_at hl 1 rfl) ?_
    refine lv_lload hx hb d_Ar_rotateThroughCarry_111 (lv_at hl 8 rfl) ?_
    refine lv_lload hx hb d_Ar_rotateThroughCarry_113 (lv_at hl 7 rfl) ?_
    refine lv_iload hx hb d_Ar_rotateThroughCarry_115 (lv_at hl 2 rfl) ?_
    refine lv_iload hx hb d_Ar_rotateThroughCarry_117 (lv_at hl 3 rfl) ?_
    obtain ⟨r7, er7, h⟩ := ok_b h
    refine z_vv (rest := []) C0 hw (c_Ar_settleRotation x1 x12 x10 x4 x5 q r7 er7) mw_Ar_settleRotation ml_Ar_71 9 rfl ⟨Nat.le_of_ble_eq_true rfl, Nat.le_of_ble_eq_true rfl⟩ ⟨Nat.le_refl 0, Nat.le_refl 0⟩ rfl hl.1 rfl (Nat.le_of_ble_eq_true rfl) d_Ar_rotateThroughCarry_119 (fun H locs hw => ?_)
    refine lv_lload hx hb d_Ar_rotateThroughCarry_122 (lv_at hl 8 rfl) ?_
    have ho := Option.some.inj h
    subst ho
    exact z_rtl C0 hw d_Ar_rotateThroughCarry_124
  · have h := ok_f h c6
    refine lv_iload_n hx hb d_Ar_rotateThroughCarry_48 rfl (lv_at hl 1 rfl) ?_
    refine lv_if_eq (tgt := 62) hx hb d_Ar_rotateThroughCarry_49 (by decide) (fun c8 => ?_) (fun c8 => ?_)
    · have h := ok_t h c8
      refine lv_lload hx hb d_Ar_rotateThroughCarry_62 (lv_at hl 8 rfl) ?_
      refine lv_lconst (v := (1 : Int64)) hx hb d_Ar_rotateThroughCarry_64 (by decide) ?_
      refine lv_land hx hb d_Ar_rotateThroughCarry_65 ?_
      exact w_Ar_rotateThroughCarry_66 o C0 q ih41 hi41 x1 x4 x5 x6 x7 x8 x10 x12 x14 (x12 &&& (1 : Int64)) h H locs ls hw (lv_sub hl [0, 1, 2, 3, 4, 5, 6, 7, 8, 9] rfl)
    · have h := ok_f h c8
      refine lv_lload hx hb d_Ar_rotateThroughCarry_52 (lv_at hl 8 rfl) ?_
      refine lv_iload hx hb d_Ar_rotateThroughCarry_54 (lv_at hl 4 rfl) ?_
      refine lv_iconst (v := (1 : Int32)) hx hb d_Ar_rotateThroughCarry_56 (by decide) ?_
      refine lv_isub hx hb d_Ar_rotateThroughCarry_57 ?_
      refine lv_lushr (v := (z_lushr x12 (x6 - (1 : Int32)))) hx hb d_Ar_rotateThroughCarry_58 rfl ?_
      refine lv_goto (tgt := 66) hx hb d_Ar_rotateThroughCarry_59 (by decide) ?_
      exact w_Ar_rotateThroughCarry_66 o C0 q ih41 hi41 x1 x4 x5 x6 x7 x8 x10 x12 x14 (z_lushr x12 (x6 - (1 : Int32))) h H locs ls hw (lv_sub hl [0, 1, 2, 3, 4, 5, 6, 7, 8, 9] rfl)
theorem w_Ar_rotateThroughCarry_41 {p : Program} {l : Launch} {e : Env} {s : State} {m : MethodId} {args : Array Value} {below : List Frame} {meth : Method} {c : Code} {D : va_G} {A : Nat → Prop} {ad : Nat → Nat} {ca : Nat → ClassId} (o : (Int64 × z_Sg)) (C0 : z_cx z_RAr b_Ar_rotateThroughCarry 17 (some .long) D (z_Kt ca) A p s m args meth c) (q : z_Sg) (x1 : Int32) (x4 : Int32) (x5 : Int32) (x6 : Int32) (x7 : Int32) (x8 : Int64) (x10 : Int64) (x12 : Int64) (x14 : Int32) (h : k_Ar_rotateThroughCarry_41 x1 x4 x5 x6 x7 x8 x10 x12 x14 q = some o) : ∀ (H : Heap) (locs : List Loc) (ls : Array Slot), z_wd D (z_K ad ca q) A s H locs → lv_has ls 17 [(0, .ref (ad 9)), (1, .int x1), (4, .int x4), (5, .int x5), (6, .int x6), (7, .int x7), (8, .long x8), (10, .long x10), (12, .long x12), (14, .int x14)] → W p l e (z_rm 2 55) s m args below meth c H locs 0 0 (z_ql below D (z_Kt ca) (z_K ad ca o.2) A s args o.1) (F0 m 41 ls []) := by
  have key : ∀ (n : Nat) (a : Int32 × Int32 × Int32 × Int32 × Int32 × Int64 × Int64 × Int64 × Int32 × z_Sg), z_lo (fun ih41 a => kb_Ar_rotateThroughCarry_41 ih41 a.1 a.2.1 a.2.2.1 a.2.2.2.1 a.2.2.2.2.1 a.2.2.2.2.2.1 a.2.2.2.2.2.2.1 a.2.2.2.2.2.2.2.1 a.2.2.2.2.2.2.2.2.1 a.2.2.2.2.2.2.2.2.2) n a = some o → ∀ (H : Heap) (locs : List Loc) (ls : Array Slot), z_wd D (z_K ad ca a.2.2.2.2.2.2.2.2.2) A s H locs → lv_has ls 17 [(0, .ref (ad 9)), (1, .int a.1), (4, .int a.2.1), (5, .int a.2.2.1), (6, .int a.2.2.2.1), (7, .int a.2.2.2.2.1), (8, .long a.2.2.2.2.2.1), (10, .long a.2.2.2.2.2.2.1), (12, .long a.2.2.2.2.2.2.2.1), (14, .int a.2.2.2.2.2.2.2.2.1)] → W p l e (z_rm 2 55) s m args below meth c H locs 0 0 (z_ql below D (z_Kt ca) (z_K ad ca o.2) A s args o.1) (F0 m 41 ls []) := by
    intro n
    induction n with
    | zero => intro a h; cases h
    | succ n ih => exact fun a h => wb_Ar_rotateThroughCarry_41 o C0 a.2.2.2.2.2.2.2.2.2 (z_lo (fun ih41 a => kb_Ar_rotateThroughCarry_41 ih41 a.1 a.2.1 a.2.2.1 a.2.2.2.1 a.2.2.2.2.1 a.2.2.2.2.2.1 a.2.2.2.2.2.2.1 a.2.2.2.2.2.2.2.1 a.2.2.2.2.2.2.2.2.1 a.2.2.2.2.2.2.2.2.2) n) ih a.1 a.2.1 a.2.2.1 a.2.2.2.1 a.2.2.2.2.1 a.2.2.2.2.2.1 a.2.2.2.2.2.2.1 a.2.2.2.2.2.2.2.1 a.2.2.2.2.2.2.2.2.1 h
  exact key 2000 (x1, x4, x5, x6, x7, x8, x10, x12, x14, q) h
set_option maxHeartbeats 4000000 in
set_option maxRecDepth 100000 in
theorem c_Ar_rotateThroughCarry {l : Launch} {D : va_G} {ad : Nat → Nat} {ca : Nat → ClassId} (x1 : Int32) (x2 : Int64) (x4 : Int32) (x5 : Int32) (q : z_Sg) (o : (Int64 × z_Sg)) (h : f_Ar_rotateThroughCarry x1 x2 x4 x5 q = some o) : z_cl l y_Ar_rotateThroughCarry b_Ar_rotateThroughCarry 17 (some .long) 2 55 D (z_Kt ca) (z_K ad ca q) (z_K ad ca o.2) [.ref (ad 9), .int x1, .long x2, .int x4, .int x5] o.1 := by
  refine z_cl_of (own := z_RAr) (by decide) rfl ?_
  intro p e s m below meth c A C0 hw
  obtain ⟨hx, hb, hr, hlk, hml, hown, hts, hK, hA⟩ := id C0
  generalize hH : s.heap = H at hw ⊢
  generalize hlo : ([] : List Loc) = locs at hw ⊢
  refine z_entry (lv := [(0, .ref (ad 9)), (1, .int x1), (2, .long x2), (4, .int x4), (5, .int x5)]) (Nat.le_of_ble_eq_true rfl) rfl (fun ls hl => ?_)
  unfold f_Ar_rotateThroughCarry at h
  refine lv_bipush (v := (8 : Int32)) hx hb d_Ar_rotateThroughCarry_0 (by decide) ?_
  refine lv_iload hx hb d_Ar_rotateThroughCarry_2 (lv_at hl 4 rfl) ?_
  refine lv_imul hx hb d_Ar_rotateThroughCarry_4 ?_
  obtain ⟨n1, en1, h⟩ := ok_n h
  refine z_ti en1 ?_
  refine lv_istore (lv' := [(6, .int n1), (0, .ref (ad 9)), (1, .int x1), (2, .long x2), (4, .int x4), (5, .int x5)]) hx hb d_Ar_rotateThroughCarry_5 hl (by decide) rfl (fun ls hl => ?_)
  refine lv_iload hx hb d_Ar_rotateThroughCarry_7 (lv_at hl 4 rfl) ?_
  refine lv_iload hx hb d_Ar_rotateThroughCarry_9 (lv_at hl 0 rfl) ?_
  refine lv_iconst (v := (1 : Int32)) hx hb d_Ar_rotateThroughCarry_11 (by decide) ?_
  refine lv_iadd hx hb d_Ar_rotateThroughCarry_12 ?_
  obtain ⟨b2, h⟩ := ok_g h
  refine lv_irem hx hb d_Ar_rotateThroughCarry_13 b2 ?_
  obtain ⟨n3, en3, h⟩ := ok_n h
  refine z_ti en3 ?_
  refine lv_istore (lv' := [(7, .int n3), (6, .int n1), (0, .ref (ad 9)), (1, .int x1), (2, .long x2), (4, .int x4), (5, .int x5)]) hx hb d_Ar_rotateThroughCarry_14 hl (by decide) rfl (fun ls hl => ?_)
  refine lv_iload hx hb d_Ar_rotateThroughCarry_16 (lv_at hl 6 rfl) ?_
  obtain ⟨r4, er4, h⟩ := ok_b h
  refine z_sl (rest := []) C0 hw (c_Ar_maskOf x5 q r4 er4) mw_Ar_maskOf ml_Ar_36 ⟨Nat.le_of_ble_eq_true rfl, Nat.le_of_ble_eq_true rfl⟩ ⟨Nat.le_refl 0, Nat.le_refl 0⟩ rfl hl.1 rfl (Nat.le_of_ble_eq_true rfl) d_Ar_rotateThroughCarry_18 (fun H locs hw => ?_)
  refine lv_lstore (lv' := [(8, .long r4), (7, .int n3), (6, .int n1), (0, .ref (ad 9)), (1, .int x1), (2, .long x2), (4, .int x4), (5, .int x5)]) hx hb d_Ar_rotateThroughCarry_21 hl (by decide) rfl (fun ls hl => ?_)
  refine lv_aload_n hx hb d_Ar_rotateThroughCarry_23 rfl (lv_at hl 3 rfl) ?_
  refine gfK_9_state C0 hw fl_Ar_9 d_Ar_rotateThroughCarry_24 ?_
  refine gfK_1_flags C0 hw fl_Ar_17 d_Ar_rotateThroughCarry_27 ?_
  refine lv_iconst (v := (1 : Int32)) hx hb d_Ar_rotateThroughCarry_30 (by decide) ?_
  refine lv_iand hx hb d_Ar_rotateThroughCarry_31 ?_
  refine lv_i2l hx hb d_Ar_rotateThroughCarry_32 rfl ?_
  obtain ⟨n5, en5, h⟩ := ok_n h
  refine z_tl en5 ?_
  refine lv_lstore (lv' := [(10, .long n5), (8, .long r4), (7, .int n3), (6, .int n1), (0, .ref (ad 9)), (1, .int x1), (2, .long x2), (4, .int x4), (5, .int x5)]) hx hb d_Ar_rotateThroughCarry_33 hl (by decide) rfl (fun ls hl => ?_)
  refine lv_lload_n hx hb d_Ar_rotateThroughCarry_35 rfl (lv_at hl 6 rfl) ?_
  refine lv_lstore (lv' := [(12, .long x2), (10, .long n5), (8, .long r4), (7, .int n3), (6, .int n1), (0, .ref (ad 9)), (1, .int x1), (2, .long x2), (4, .int x4), (5, .int x5)]) hx hb d_Ar_rotateThroughCarry_36 hl (by decide) rfl (fun ls hl => ?_)
  refine lv_iconst (v := (0 : Int32)) hx hb d_Ar_rotateThroughCarry_38 (by decide) ?_
  refine lv_istore (lv' := [(14, .int (0 : Int32)), (12, .long x2), (10, .long n5), (8, .long r4), (7, .int n3), (6, .int n1), (0, .ref (ad 9)), (1, .int x1), (2, .long x2), (4, .int x4), (5, .int x5)]) hx hb d_Ar_rotateThroughCarry_39 hl (by decide) rfl (fun ls hl => ?_)
  exact w_Ar_rotateThroughCarry_41 o C0 q x1 x4 x5 n1 n3 r4 n5 x2 (0 : Int32) h H locs ls hw (lv_sub hl [6, 7, 9, 10, 5, 4, 3, 2, 1, 0] rfl)
def k_Ar_settleShift_56 (x9 : Int32) (t0 : Int32) (t1 : Int32) (q : z_Sg) : Option z_Sg :=
  z_nm ((t0 ||| t1)) (fun n5 => (f_Ar_settle ((2261 : Int32) &&& (n5 ^^^ (-1 : Int32))) x9 n5 q).bind (fun r6 => some r6))
def k_Ar_settleShift_40 (x7 : Int32) (x8 : Int32) (x9 : Int32) (t0 : Int32) (t1 : Int32) (q : z_Sg) : Option z_Sg :=
  if x7 ≤ ((8 : Int32) * x8) then (k_Ar_settleShift_56 x9 (t0 ||| t1) (0 : Int32) q) else (k_Ar_settleShift_56 x9 (t0 ||| t1) (1 : Int32) q)
def f_Ar_settleShift (x1 : Int64) (x3 : Int64) (x5 : Int64) (x7 : Int32) (x8 : Int32) (q : z_Sg) : Option z_Sg :=
  (f_Ar_flagsOf x1 x8 q).bind (fun r1 => z_nm (((r1 ||| (((x3 &&& (1 : Int64)).toInt32) * (1 : Int32))) ||| (((x5 &&& (1 : Int64)).toInt32) * (2048 : Int32)))) (fun n2 => if x7 = (1 : Int32) then (k_Ar_settleShift_40 x7 x8 n2 (16 : Int32) (0 : Int32) q) else (k_Ar_settleShift_40 x7 x8 n2 (16 : Int32) (2048 : Int32) q)))
set_option maxHeartbeats 4000000 in
set_option maxRecDepth 100000 in
theorem w_Ar_settleShift_56 {p : Program} {l : Launch} {e : Env} {s : State} {m : MethodId} {args : Array Value} {below : List Frame} {meth : Method} {c : Code} {D : va_G} {A : Nat → Prop} {ad : Nat → Nat} {ca : Nat → ClassId} (o : z_Sg) (C0 : z_cx z_RAr b_Ar_settleShift 11 none D (z_Kt ca) A p s m args meth c) (q : z_Sg) (x9 : Int32) (t0 : Int32) (t1 : Int32) (h : k_Ar_settleShift_56 x9 t0 t1 q = some o) : ∀ (H : Heap) (locs : List Loc) (ls : Array Slot), z_wd D (z_K ad ca q) A s H locs → lv_has ls 11 [(0, .ref (ad 9)), (9, .int x9)] → W p l e (z_rm 1 26) s m args below meth c H locs 0 0 (z_qv below D (z_Kt ca) (z_K ad ca o) A s args) (F0 m 56 ls [.int t1, .int t0]) := by
  obtain ⟨hx, hb, hr, hlk, hml, hown, hts, hK, hA⟩ := id C0
  intro H locs ls hw hl
  refine lv_ior hx hb d_Ar_settleShift_56 ?_
  obtain ⟨n5, en5, h⟩ := ok_n h
  refine z_ti en5 ?_
  refine lv_istore (lv' := [(10, .int n5), (0, .ref (ad 9)), (9, .int x9)]) hx hb d_Ar_settleShift_57 hl (by decide) rfl (fun ls hl => ?_)
  refine lv_aload_n hx hb d_Ar_settleShift_59 rfl (lv_at hl 1 rfl) ?_
  refine lv_sipush (v := (2261 : Int32)) hx hb d_Ar_settleShift_60 (by decide) ?_
  refine lv_iload hx hb d_Ar_settleShift_63 (lv_at hl 0 rfl) ?_
  refine lv_iconst (v := (-1 : Int32)) hx hb d_Ar_settleShift_65 (by decide) ?_
  refine lv_ixor hx hb d_Ar_settleShift_66 ?_
  refine lv_iand hx hb d_Ar_settleShift_67 ?_
  refine lv_iload hx hb d_Ar_settleShift_68 (lv_at hl 2 rfl) ?_
  refine lv_iload hx hb d_Ar_settleShift_70 (lv_at hl 0 rfl) ?_
  obtain ⟨r6, er6, h⟩ := ok_b h
  refine z_vv (rest := []) C0 hw (c_Ar_settle ((2261 : Int32) &&& (n5 ^^^ (-1 : Int32))) x9 n5 q r6 er6) mw_Ar_settle ml_Ar_32 9 rfl ⟨Nat.le_of_ble_eq_true rfl, Nat.le_of_ble_eq_true rfl⟩ ⟨Nat.le_refl 0, Nat.le_refl 0⟩ rfl hl.1 rfl (Nat.le_of_ble_eq_true rfl) d_Ar_settleShift_72 (fun H locs hw => ?_)
  have ho := Option.some.inj h
  subst ho
  exact z_rtv C0 hw d_Ar_settleShift_75
set_option maxHeartbeats 4000000 in
set_option maxRecDepth 100000 in
theorem w_Ar_settleShift_40 {p : Program} {l : Launch} {e : Env} {s : State} {m : MethodId} {args : Array Value} {below : List Frame} {meth : Method} {c : Code} {D : va_G} {A : Nat → Prop} {ad : Nat → Nat} {ca : Nat → ClassId} (o : z_Sg) (C0 : z_cx z_RAr b_Ar_settleShift 11 none D (z_Kt ca) A p s m args meth c) (q : z_Sg) (x7 : Int32) (x8 : Int32) (x9 : Int32) (t0 : Int32) (t1 : Int32) (h : k_Ar_settleShift_40 x7 x8 x9 t0 t1 q = some o) : ∀ (H : Heap) (locs : List Loc) (ls : Array Slot), z_wd D (z_K ad ca q) A s H locs → lv_has ls 11 [(0, .ref (ad 9)), (7, .int x7), (8, .int x8), (9, .int x9)] → W p l e (z_rm 1 26) s m args below meth c H locs 0 0 (z_qv below D (z_Kt ca) (z_K ad ca o) A s args) (F0 m 40 ls [.int t1, .int t0]) := by
  obtain ⟨hx, hb, hr, hlk, hml, hown, hts, hK, hA⟩ := id C0
  intro H locs ls hw hl
  refine lv_ior hx hb d_Ar_settleShift_40 ?_
  refine lv_iload hx hb d_Ar_settleShift_41 (lv_at hl 1 rfl) ?_
  refine lv_bipush (v := (8 : Int32)) hx hb d_Ar_settleShift_43 (by decide) ?_
  refine lv_iload hx hb d_Ar_settleShift_45 (lv_at hl 2 rfl) ?_
  refine lv_imul hx hb d_Ar_settleShift_47 ?_
  refine lv_icmp_le (tgt := 55) hx hb d_Ar_settleShift_48 (by decide) (fun c4 => ?_) (fun c4 => ?_)
  · have h := ok_t h c4
    refine lv_iconst (v := (0 : Int32)) hx hb d_Ar_settleShift_55 (by decide) ?_
    exact w_Ar_settleShift_56 o C0 q x9 (t0 ||| t1) (0 : Int32) h H locs ls hw (lv_sub hl [0, 3] rfl)
  · have h := ok_f h c4
    refine lv_iconst (v := (1 : Int32)) hx hb d_Ar_settleShift_51 (by decide) ?_
    refine lv_goto (tgt := 56) hx hb d_Ar_settleShift_52 (by decide) ?_
    exact w_Ar_settleShift_56 o C0 q x9 (t0 ||| t1) (1 : Int32) h H locs ls hw (lv_sub hl [0, 3] rfl)
set_option maxHeartbeats 4000000 in
set_option maxRecDepth 100000 in
theorem c_Ar_settleShift {l : Launch} {D : va_G} {ad : Nat → Nat} {ca : Nat → ClassId} (x1 : Int64) (x3 : Int64) (x5 : Int64) (x7 : Int32) (x8 : Int32) (q : z_Sg) (o : z_Sg) (h : f_Ar_settleShift x1 x3 x5 x7 x8 q = some o) : z_cv l y_Ar_settleShift b_Ar_settleShift 11 none 1 26 D (z_Kt ca) (z_K ad ca q) (z_K ad ca o) [.ref (ad 9), .long x1, .long x3, .long x5, .int x7, .int x8] := by
  refine z_cv_of (own := z_RAr) (by decide) rfl ?_
  intro p e s m below meth c A C0 hw
  obtain ⟨hx, hb, hr, hlk, hml, hown, hts, hK, hA⟩ := id C0
  generalize hH : s.heap = H at hw ⊢
  generalize hlo : ([] : List Loc) = locs at hw ⊢
  refine z_entry (lv := [(0, .ref (ad 9)), (1, .long x1), (3, .long x3), (5, .long x5), (7, .int x7), (8, .int x8)]) (Nat.le_of_ble_eq_true rfl) rfl (fun ls hl => ?_)
  unfold f_Ar_settleShift at h
  refine lv_lload_n hx hb d_Ar_settleShift_0 rfl (lv_at hl 1 rfl) ?_
  refine lv_iload hx hb d_Ar_settleShift_1 (lv_at hl 5 rfl) ?_
  obtain ⟨r1, er1, h⟩ := ok_b h
  refine z_si (rest := []) C0 hw (c_Ar_flagsOf x1 x8 q r1 er1) mw_Ar_flagsOf ml_Ar_28 ⟨Nat.le_of_ble_eq_true rfl, Nat.le_of_ble_eq_true rfl⟩ ⟨Nat.le_refl 0, Nat.le_refl 0⟩ rfl hl.1 rfl (Nat.le_of_ble_eq_true rfl) d_Ar_settleShift_3 (fun H locs hw => ?_)
  refine lv_lload_n hx hb d_Ar_settleShift_6 rfl (lv_at hl 2 rfl) ?_
  refine lv_lconst (v := (1 : Int64)) hx hb d_Ar_settleShift_7 (by decide) ?_
  refine lv_land hx hb d_Ar_settleShift_8 ?_
  refine lv_l2i hx hb d_Ar_settleShift_9 rfl ?_
  refine lv_iconst (v := (1 : Int32)) hx hb d_Ar_settleShift_10 (by decide) ?_
  refine lv_imul hx hb d_Ar_settleShift_11 ?_
  refine lv_ior hx hb d_Ar_settleShift_12 ?_
  refine lv_lload hx hb d_Ar_settleShift_13 (lv_at hl 3 rfl) ?_
  refine lv_lconst (v := (1 : Int64)) hx hb d_Ar_settleShift_15 (by decide) ?_
  refine lv_land hx hb d_Ar_settleShift_16 ?_
  refine lv_l2i hx hb d_Ar_settleShift_17 rfl ?_
  refine lv_sipush (v := (2048 : Int32)) hx hb d_Ar_settleShift_18 (by decide) ?_
  refine lv_imul hx hb d_Ar_settleShift_21 ?_
  refine lv_ior hx hb d_Ar_settleShift_22 ?_
  obtain ⟨n2, en2, h⟩ := ok_n h
  refine z_ti en2 ?_
  refine lv_istore (lv' := [(9, .int n2), (0, .ref (ad 9)), (1, .long x1), (3, .long x3), (5, .long x5), (7, .int x7), (8, .int x8)]) hx hb d_Ar_settleShift_23 hl (by decide) rfl (fun ls hl => ?_)
  refine lv_bipush (v := (16 : Int32)) hx hb d_Ar_settleShift_25 (by decide) ?_
  refine lv_iload hx hb d_Ar_settleShift_27 (lv_at hl 5 rfl) ?_
  refine lv_iconst (v := (1 : Int32)) hx hb d_Ar_settleShift_29 (by decide) ?_
  refine lv_icmp_ne (tgt := 37) hx hb d_Ar_settleShift_30 (by decide) (fun c3 => ?_) (fun c3 => ?_)
  · have h := ok_f h c3
    refine lv_sipush (v := (2048 : Int32)) hx hb d_Ar_settleShift_37 (by decide) ?_
    exact w_Ar_settleShift_40 o C0 q x7 x8 n2 (16 : Int32) (2048 : Int32) h H locs ls hw (lv_sub hl [1, 5, 6, 0] rfl)
  · have h := ok_t h c3
    refine lv_iconst (v := (0 : Int32)) hx hb d_Ar_settleShift_33 (by decide) ?_
    refine lv_goto (tgt := 40) hx hb d_Ar_settleShift_34 (by decide) ?_
    exact w_Ar_settleShift_40 o C0 q x7 x8 n2 (16 : Int32) (0 : Int32) h H locs ls hw (lv_sub hl [1, 5, 6, 0] rfl)
def k_Ar_shiftLeft_34 (x3 : Int32) (x4 : Int32) (x5 : Int32) (x6 : Int64) (t0 : Int64) (q : z_Sg) : Option (Int64 × z_Sg) :=
  (f_Ar_settleShift x6 t0 ((z_lushr x6 (x5 - (1 : Int32))) ^^^ t0) x3 x4 q).bind (fun r5 => some (x6, r5))
def f_Ar_shiftLeft (x1 : Int64) (x3 : Int32) (x4 : Int32) (q : z_Sg) : Option (Int64 × z_Sg) :=
  z_nm (((8 : Int32) * x4)) (fun n1 => (f_Ar_maskOf x4 q).bind (fun r2 => z_nm (((z_lshl x1 x3) &&& r2)) (fun n3 => if x3 ≤ n1 then (k_Ar_shiftLeft_34 x3 x4 n1 n3 (z_lushr x1 (n1 - x3)) q) else (k_Ar_shiftLeft_34 x3 x4 n1 n3 (0 : Int64) q))))
set_option maxHeartbeats 4000000 in
set_option maxRecDepth 100000 in
theorem w_Ar_shiftLeft_34 {p : Program} {l : Launch} {e : Env} {s : State} {m : MethodId} {args : Array Value} {below : List Frame} {meth : Method} {c : Code} {D : va_G} {A : Nat → Prop} {ad : Nat → Nat} {ca : Nat → ClassId} (o : (Int64 × z_Sg)) (C0 : z_cx z_RAr b_Ar_shiftLeft 10 (some .long) D (z_Kt ca) A p s m args meth c) (q : z_Sg) (x3 : Int32) (x4 : Int32) (x5 : Int32) (x6 : Int64) (t0 : Int64) (h : k_Ar_shiftLeft_34 x3 x4 x5 x6 t0 q = some o) : ∀ (H : Heap) (locs : List Loc) (ls : Array Slot), z_wd D (z_K ad ca q) A s H locs → lv_has ls 10 [(0, .ref (ad 9)), (3, .int x3), (4, .int x4), (5, .int x5), (6, .long x6)] → W p l e (z_rm 2 56) s m args below meth c H locs 0 0 (z_ql below D (z_Kt ca) (z_K ad ca o.2) A s args o.1) (F0 m 34 ls [.long t0]) := by
  obtain ⟨hx, hb, hr, hlk, hml, hown, hts, hK, hA⟩ := id C0
  intro H locs ls hw hl
  refine lv_lstore (lv' := [(8, .long t0), (0, .ref (ad 9)), (3, .int x3), (4, .int x4), (5, .int x5), (6, .long x6)]) hx hb d_Ar_shiftLeft_34 hl (by decide) rfl (fun ls hl => ?_)
  refine lv_aload_n hx hb d_Ar_shiftLeft_36 rfl (lv_at hl 1 rfl) ?_
  refine lv_lload hx hb d_Ar_shiftLeft_37 (lv_at hl 5 rfl) ?_
  refine lv_lload hx hb d_Ar_shiftLeft_39 (lv_at hl 0 rfl) ?_
  refine lv_lload hx hb d_Ar_shiftLeft_41 (lv_at hl 5 rfl) ?_
  refine lv_iload hx hb d_Ar_shiftLeft_43 (lv_at hl 4 rfl) ?_
  refine lv_iconst (v := (1 : Int32)) hx hb d_Ar_shiftLeft_45 (by decide) ?_
  refine lv_isub hx hb d_Ar_shiftLeft_46 ?_
  refine lv_lushr (v := (z_lushr x6 (x5 - (1 : Int32)))) hx hb d_Ar_shiftLeft_47 rfl ?_
  refine lv_lload hx hb d_Ar_shiftLeft_48 (lv_at hl 0 rfl) ?_
  refine lv_lxor hx hb d_Ar_shiftLeft_50 ?_
  refine lv_iload_n hx hb d_Ar_shiftLeft_51 rfl (lv_at hl 2 rfl) ?_
  refine lv_iload hx hb d_Ar_shiftLeft_52 (lv_at hl 3 rfl) ?_
  obtain ⟨r5, er5, h⟩ := ok_b h
  refine z_vv (rest := []) C0 hw (c_Ar_settleShift x6 t0 ((z_lushr x6 (x5 - (1 : Int32))) ^^^ t0) x3 x4 q r5 er5) mw_Ar_settleShift ml_Ar_75 9 rfl ⟨Nat.le_of_ble_eq_true rfl, Nat.le_of_ble_eq_true rfl⟩ ⟨Nat.le_refl 0, Nat.le_refl 0⟩ rfl hl.1 rfl (Nat.le_of_ble_eq_true rfl) d_Ar_shiftLeft_54 (fun H locs hw => ?_)
  refine lv_lload hx hb d_Ar_shiftLeft_57 (lv_at hl 5 rfl) ?_
  have ho := Option.some.inj h
  subst ho
  exact z_rtl C0 hw d_Ar_shiftLeft_59
set_option maxHeartbeats 4000000 in
set_option maxRecDepth 100000 in
theorem c_Ar_shiftLeft {l : Launch} {D : va_G} {ad : Nat → Nat} {ca : Nat → ClassId} (x1 : Int64) (x3 : Int32) (x4 : Int32) (q : z_Sg) (o : (Int64 × z_Sg)) (h : f_Ar_shiftLeft x1 x3 x4 q = some o) : z_cl l y_Ar_shiftLeft b_Ar_shiftLeft 10 (some .long) 2 56 D (z_Kt ca) (z_K ad ca q) (z_K ad ca o.2) [.ref (ad 9), .long x1, .int x3, .int x4] o.1 := by
  refine z_cl_of (own := z_RAr) (by decide) rfl ?_
  intro p e s m below meth c A C0 hw
  obtain ⟨hx, hb, hr, hlk, hml, hown, hts, hK, hA⟩ := id C0
  generalize hH : s.heap = H at hw ⊢
  generalize hlo : ([] : List Loc) = locs at hw ⊢
  refine z_entry (lv := [(0, .ref (ad 9)), (1, .long x1), (3, .int x3), (4, .int x4)]) (Nat.le_of_ble_eq_true rfl) rfl (fun ls hl => ?_)
  unfold f_Ar_shiftLeft at h
  refine lv_bipush (v := (8 : Int32)) hx hb d_Ar_shiftLeft_0 (by decide) ?_
  refine lv_iload hx hb d_Ar_shiftLeft_2 (lv_at hl 3 rfl) ?_
  refine lv_imul hx hb d_Ar_shiftLeft_4 ?_
  obtain ⟨n1, en1, h⟩ := ok_n h
  refine z_ti en1 ?_
  refine lv_istore (lv' := [(5, .int n1), (0, .ref (ad 9)), (1, .long x1), (3, .int x3), (4, .int x4)]) hx hb d_Ar_shiftLeft_5 hl (by decide) rfl (fun ls hl => ?_)
  refine lv_lload_n hx hb d_Ar_shiftLeft_7 rfl (lv_at hl 2 rfl) ?_
  refine lv_iload_n hx hb d_Ar_shiftLeft_8 rfl (lv_at hl 3 rfl) ?_
  refine lv_lshl (v := (z_lshl x1 x3)) hx hb d_Ar_shiftLeft_9 rfl ?_
  refine lv_iload hx hb d_Ar_shiftLeft_10 (lv_at hl 4 rfl) ?_
  obtain ⟨r2, er2, h⟩ := ok_b h
  refine z_sl (rest := [.long (z_lshl x1 x3)]) C0 hw (c_Ar_maskOf x4 q r2 er2) mw_Ar_maskOf ml_Ar_36 ⟨Nat.le_of_ble_eq_true rfl, Nat.le_of_ble_eq_true rfl⟩ ⟨Nat.le_refl 0, Nat.le_refl 0⟩ rfl hl.1 rfl (Nat.le_of_ble_eq_true rfl) d_Ar_shiftLeft_12 (fun H locs hw => ?_)
  refine lv_land hx hb d_Ar_shiftLeft_15 ?_
  obtain ⟨n3, en3, h⟩ := ok_n h
  refine z_tl en3 ?_
  refine lv_lstore (lv' := [(6, .long n3), (5, .int n1), (0, .ref (ad 9)), (1, .long x1), (3, .int x3), (4, .int x4)]) hx hb d_Ar_shiftLeft_16 hl (by decide) rfl (fun ls hl => ?_)
  refine lv_iload_n hx hb d_Ar_shiftLeft_18 rfl (lv_at hl 4 rfl) ?_
  refine lv_iload hx hb d_Ar_shiftLeft_19 (lv_at hl 1 rfl) ?_
  refine lv_icmp_le (tgt := 28) hx hb d_Ar_shiftLeft_21 (by decide) (fun c4 => ?_) (fun c4 => ?_)
  · have h := ok_t h c4
    refine lv_lload_n hx hb d_Ar_shiftLeft_28 rfl (lv_at hl 3 rfl) ?_
    refine lv_iload hx hb d_Ar_shiftLeft_29 (lv_at hl 1 rfl) ?_
    refine lv_iload_n hx hb d_Ar_shiftLeft_31 rfl (lv_at hl 4 rfl) ?_
    refine lv_isub hx hb d_Ar_shiftLeft_32 ?_
    refine lv_lushr (v := (z_lushr x1 (n1 - x3))) hx hb d_Ar_shiftLeft_33 rfl ?_
    exact w_Ar_shiftLeft_34 o C0 q x3 x4 n1 n3 (z_lushr x1 (n1 - x3)) h H locs ls hw (lv_sub hl [2, 4, 5, 1, 0] rfl)
  · have h := ok_f h c4
    refine lv_lconst (v := (0 : Int64)) hx hb d_Ar_shiftLeft_24 (by decide) ?_
    refine lv_goto (tgt := 34) hx hb d_Ar_shiftLeft_25 (by decide) ?_
    exact w_Ar_shiftLeft_34 o C0 q x3 x4 n1 n3 (0 : Int64) h H locs ls hw (lv_sub hl [2, 4, 5, 1, 0] rfl)
def f_Ar_shiftRight (x1 : Int64) (x3 : Int32) (x4 : Int32) (q : z_Sg) : Option (Int64 × z_Sg) :=
  z_nm ((z_lushr x1 x3)) (fun n1 => (f_Ar_settleShift n1 (z_lushr x1 (x3 - (1 : Int32))) (z_lushr x1 (((8 : Int32) * x4) - (1 : Int32))) x3 x4 q).bind (fun r2 => some (n1, r2)))
set_option maxHeartbeats 4000000 in
set_option maxRecDepth 100000 in
theorem c_Ar_shiftRight {l : Launch} {D : va_G} {ad : Nat → Nat} {ca : Nat → ClassId} (x1 : Int64) (x3 : Int32) (x4 : Int32) (q : z_Sg) (o : (Int64 × z_Sg)) (h : f_Ar_shiftRight x1 x3 x4 q = some o) : z_cl l y_Ar_shiftRight b_Ar_shiftRight 7 (some .long) 2 56 D (z_Kt ca) (z_K ad ca q) (z_K ad ca o.2) [.ref (ad 9), .long x1, .int x3, .int x4] o.1 := by
  refine z_cl_of (own := z_RAr) (by decide) rfl ?_
  intro p e s m below meth c A C0 hw
  obtain ⟨hx, hb, hr, hlk, hml, hown, hts, hK, hA⟩ := id C0
  generalize hH : s.heap = H at hw ⊢
  generalize hlo : ([] : List Loc) = locs at hw ⊢
  refine z_entry (lv := [(0, .ref (ad 9)), (1, .long x1), (3, .int x3), (4, .int x4)]) (Nat.le_of_ble_eq_true rfl) rfl (fun ls hl => ?_)
  unfold f_Ar_shiftRight at h
  refine lv_lload_n hx hb d_Ar_shiftRight_0 rfl (lv_at hl 1 rfl) ?_
  refine lv_iload_n hx hb d_Ar_shiftRight_1 rfl (lv_at hl 2 rfl) ?_
  refine lv_lushr (v := (z_lushr x1 x3)) hx hb d_Ar_shiftRight_2 rfl ?_
  obtain ⟨n1, en1, h⟩ := ok_n h
  refine z_tl en1 ?_
  refine lv_lstore (lv' := [(5, .long n1), (0, .ref (ad 9)), (1, .long x1), (3, .int x3), (4, .int x4)]) hx hb d_Ar_shiftRight_3 hl (by decide) rfl (fun ls hl => ?_)
  refine lv_aload_n hx hb d_Ar_shiftRight_5 rfl (lv_at hl 1 rfl) ?_
  refine lv_lload hx hb d_Ar_shiftRight_6 (lv_at hl 0 rfl) ?_
  refine lv_lload_n hx hb d_Ar_shiftRight_8 rfl (lv_at hl 2 rfl) ?_
  refine lv_iload_n hx hb d_Ar_shiftRight_9 rfl (lv_at hl 3 rfl) ?_
  refine lv_iconst (v := (1 : Int32)) hx hb d_Ar_shiftRight_10 (by decide) ?_
  refine lv_isub hx hb d_Ar_shiftRight_11 ?_
  refine lv_lushr (v := (z_lushr x1 (x3 - (1 : Int32)))) hx hb d_Ar_shiftRight_12 rfl ?_
  refine lv_lload_n hx hb d_Ar_shiftRight_13 rfl (lv_at hl 2 rfl) ?_
  refine lv_bipush (v := (8 : Int32)) hx hb d_Ar_shiftRight_14 (by decide) ?_
  refine lv_iload hx hb d_Ar_shiftRight_16 (lv_at hl 4 rfl) ?_
  refine lv_imul hx hb d_Ar_shiftRight_18 ?_
  refine lv_iconst (v := (1 : Int32)) hx hb d_Ar_shiftRight_19 (by decide) ?_
  refine lv_isub hx hb d_Ar_shiftRight_20 ?_
  refine lv_lushr (v := (z_lushr x1 (((8 : Int32) * x4) - (1 : Int32)))) hx hb d_Ar_shiftRight_21 rfl ?_
  refine lv_iload_n hx hb d_Ar_shiftRight_22 rfl (lv_at hl 3 rfl) ?_
  refine lv_iload hx hb d_Ar_shiftRight_23 (lv_at hl 4 rfl) ?_
  obtain ⟨r2, er2, h⟩ := ok_b h
  refine z_vv (rest := []) C0 hw (c_Ar_settleShift n1 (z_lushr x1 (x3 - (1 : Int32))) (z_lushr x1 (((8 : Int32) * x4) - (1 : Int32))) x3 x4 q r2 er2) mw_Ar_settleShift ml_Ar_75 9 rfl ⟨Nat.le_of_ble_eq_true rfl, Nat.le_of_ble_eq_true rfl⟩ ⟨Nat.le_refl 0, Nat.le_refl 0⟩ rfl hl.1 rfl (Nat.le_of_ble_eq_true rfl) d_Ar_shiftRight_25 (fun H locs hw => ?_)
  refine lv_lload hx hb d_Ar_shiftRight_28 (lv_at hl 0 rfl) ?_
  have ho := Option.some.inj h
  subst ho
  exact z_rtl C0 hw d_Ar_shiftRight_30
def f_Ar_shiftSigned (x1 : Int64) (x3 : Int32) (x4 : Int32) (q : z_Sg) : Option (Int64 × z_Sg) :=
  (f_Ar_signed x1 x4 q).bind (fun r1 => (f_Ar_maskOf x4 q).bind (fun r2 => z_nm (((z_lshr r1 x3) &&& r2)) (fun n3 => (f_Ma_min x3 ((8 : Int32) * x4) q).bind (fun r4 => (f_Ar_settleShift n3 (z_lshr r1 (x3 - (1 : Int32))) (0 : Int64) r4 x4 q).bind (fun r5 => some (n3, r5))))))
set_option maxHeartbeats 4000000 in
set_option maxRecDepth 100000 in
theorem c_Ar_shiftSigned {l : Launch} {D : va_G} {ad : Nat → Nat} {ca : Nat → ClassId} (x1 : Int64) (x3 : Int32) (x4 : Int32) (q : z_Sg) (o : (Int64 × z_Sg)) (h : f_Ar_shiftSigned x1 x3 x4 q = some o) : z_cl l y_Ar_shiftSigned b_Ar_shiftSigned 10 (some .long) 2 56 D (z_Kt ca) (z_K ad ca q) (z_K ad ca o.2) [.ref (ad 9), .long x1, .int x3, .int x4] o.1 := by
  refine z_cl_of (own := z_RAr) (by decide) rfl ?_
  intro p e s m below meth c A C0 hw
  obtain ⟨hx, hb, hr, hlk, hml, hown, hts, hK, hA⟩ := id C0
  generalize hH : s.heap = H at hw ⊢
  generalize hlo : ([] : List Loc) = locs at hw ⊢
  refine z_entry (lv := [(0, .ref (ad 9)), (1, .long x1), (3, .int x3), (4, .int x4)]) (Nat.le_of_ble_eq_true rfl) rfl (fun ls hl => ?_)
  unfold f_Ar_shiftSigned at h
  refine lv_lload_n hx hb d_Ar_shiftSigned_0 rfl (lv_at hl 1 rfl) ?_
  refine lv_iload hx hb d_Ar_shiftSigned_1 (lv_at hl 3 rfl) ?_
  obtain ⟨r1, er1, h⟩ := ok_b h
  refine z_sl (rest := []) C0 hw (c_Ar_signed x1 x4 q r1 er1) mw_Ar_signed ml_Ar_79 ⟨Nat.le_of_ble_eq_true rfl, Nat.le_of_ble_eq_true rfl⟩ ⟨Nat.le_refl 0, Nat.le_refl 0⟩ rfl hl.1 rfl (Nat.le_of_ble_eq_true rfl) d_Ar_shiftSigned_3 (fun H locs hw => ?_)
  refine lv_lstore (lv' := [(5, .long r1), (0, .ref (ad 9)), (1, .long x1), (3, .int x3), (4, .int x4)]) hx hb d_Ar_shiftSigned_6 hl (by decide) rfl (fun ls hl => ?_)
  refine lv_lload hx hb d_Ar_shiftSigned_8 (lv_at hl 0 rfl) ?_
  refine lv_iload_n hx hb d_Ar_shiftSigned_10 rfl (lv_at hl 3 rfl) ?_
  refine lv_lshr (v := (z_lshr r1 x3)) hx hb d_Ar_shiftSigned_11 rfl ?_
  refine lv_iload hx hb d_Ar_shiftSigned_12 (lv_at hl 4 rfl) ?_
  obtain ⟨r2, er2, h⟩ := ok_b h
  refine z_sl (rest := [.long (z_lshr r1 x3)]) C0 hw (c_Ar_maskOf x4 q r2 er2) mw_Ar_maskOf ml_Ar_36 ⟨Nat.le_of_ble_eq_true rfl, Nat.le_of_ble_eq_true rfl⟩ ⟨Nat.le_refl 0, Nat.le_refl 0⟩ rfl hl.1 rfl (Nat.le_of_ble_eq_true rfl) d_Ar_shiftSigned_14 (fun H locs hw => ?_)
  refine lv_land hx hb d_Ar_shiftSigned_17 ?_
  obtain ⟨n3, en3, h⟩ := ok_n h
  refine z_tl en3 ?_
  refine lv_lstore (lv' := [(7, .long n3), (5, .long r1), (0, .ref (ad 9)), (1, .long x1), (3, .int x3), (4, .int x4)]) hx hb d_Ar_shiftSigned_18 hl (by decide) rfl (fun ls hl => ?_)
  refine lv_iload_n hx hb d_Ar_shiftSigned_20 rfl (lv_at hl 4 rfl) ?_
  refine lv_bipush (v := (8 : Int32)) hx hb d_Ar_shiftSigned_21 (by decide) ?_
  refine lv_iload hx hb d_Ar_shiftSigned_23 (lv_at hl 5 rfl) ?_
  refine lv_imul hx hb d_Ar_shiftSigned_25 ?_
  obtain ⟨r4, er4, h⟩ := ok_b h
  refine z_si (rest := []) C0 hw (c_Ma_min x3 ((8 : Int32) * x4) q r4 er4) mw_Ma_min ml_Ar_82 ⟨Nat.le_of_ble_eq_true rfl, Nat.le_of_ble_eq_true rfl⟩ ⟨Nat.le_refl 0, Nat.le_refl 0⟩ rfl hl.1 rfl (Nat.le_of_ble_eq_true rfl) d_Ar_shiftSigned_26 (fun H locs hw => ?_)
  refine lv_istore (lv' := [(9, .int r4), (7, .long n3), (5, .long r1), (0, .ref (ad 9)), (1, .long x1), (3, .int x3), (4, .int x4)]) hx hb d_Ar_shiftSigned_29 hl (by decide) rfl (fun ls hl => ?_)
  refine lv_aload_n hx hb d_Ar_shiftSigned_31 rfl (lv_at hl 3 rfl) ?_
  refine lv_lload hx hb d_Ar_shiftSigned_32 (lv_at hl 1 rfl) ?_
  refine lv_lload hx hb d_Ar_shiftSigned_34 (lv_at hl 2 rfl) ?_
  refine lv_iload_n hx hb d_Ar_shiftSigned_36 rfl (lv_at hl 5 rfl) ?_
  refine lv_iconst (v := (1 : Int32)) hx hb d_Ar_shiftSigned_37 (by decide) ?_
  refine lv_isub hx hb d_Ar_shiftSigned_38 ?_
  refine lv_lshr (v := (z_lshr r1 (x3 - (1 : Int32)))) hx hb d_Ar_shiftSigned_39 rfl ?_
  refine lv_lconst (v := (0 : Int64)) hx hb d_Ar_shiftSigned_40 (by decide) ?_
  refine lv_iload hx hb d_Ar_shiftSigned_41 (lv_at hl 0 rfl) ?_
  refine lv_iload hx hb d_Ar_shiftSigned_43 (lv_at hl 6 rfl) ?_
  obtain ⟨r5, er5, h⟩ := ok_b h
  refine z_vv (rest := []) C0 hw (c_Ar_settleShift n3 (z_lshr r1 (x3 - (1 : Int32))) (0 : Int64) r4 x4 q r5 er5) mw_Ar_settleShift ml_Ar_75 9 rfl ⟨Nat.le_of_ble_eq_true rfl, Nat.le_of_ble_eq_true rfl⟩ ⟨Nat.le_refl 0, Nat.le_refl 0⟩ rfl hl.1 rfl (Nat.le_of_ble_eq_true rfl) d_Ar_shiftSigned_45 (fun H locs hw => ?_)
  refine lv_lload hx hb d_Ar_shiftSigned_48 (lv_at hl 1 rfl) ?_
  have ho := Option.some.inj h
  subst ho
  exact z_rtl C0 hw d_Ar_shiftSigned_50
def k_Ar_shift_16 (x1 : Int32) (x2 : Int64) (x5 : Int32) (t0 : Int32) (t1 : Int32) (q : z_Sg) : Option (Int64 × z_Sg) :=
  z_nm ((t0 &&& t1)) (fun n2 => if n2 = 0 then (some (x2, q)) else (if x1 = (0 : Int32) then ((f_Ar_rotate (1 : Int32) x2 n2 x5 q).bind (fun r5 => some (r5.1, r5.2))) else (if x1 = (1 : Int32) then ((f_Ar_rotate (0 : Int32) x2 n2 x5 q).bind (fun r7 => some (r7.1, r7.2))) else (if x1 = (2 : Int32) then ((f_Ar_rotateThroughCarry (1 : Int32) x2 n2 x5 q).bind (fun r9 => some (r9.1, r9.2))) else (if x1 = (3 : Int32) then ((f_Ar_rotateThroughCarry (0 : Int32) x2 n2 x5 q).bind (fun r11 => some (r11.1, r11.2))) else (if x1 = (4 : Int32) then ((f_Ar_shiftLeft x2 n2 x5 q).bind (fun r13 => some (r13.1, r13.2))) else (if x1 = (5 : Int32) then ((f_Ar_shiftRight x2 n2 x5 q).bind (fun r15 => some (r15.1, r15.2))) else ((f_Ar_shiftSigned x2 n2 x5 q).bind (fun r16 => some (r16.1, r16.2))))))))))
def f_Ar_shift (x1 : Int32) (x2 : Int64) (x4 : Int32) (x5 : Int32) (q : z_Sg) : Option (Int64 × z_Sg) :=
  if x5 = (8 : Int32) then (k_Ar_shift_16 x1 x2 x5 x4 (63 : Int32) q) else (k_Ar_shift_16 x1 x2 x5 x4 (31 : Int32) q)
set_option maxHeartbeats 4000000 in
set_option maxRecDepth 100000 in
theorem w_Ar_shift_16 {p : Program} {l : Launch} {e : Env} {s : State} {m : MethodId} {args : Array Value} {below : List Frame} {meth : Method} {c : Code} {D : va_G} {A : Nat → Prop} {ad : Nat → Nat} {ca : Nat → ClassId} (o : (Int64 × z_Sg)) (C0 : z_cx z_RAr b_Ar_shift 7 (some .long) D (z_Kt ca) A p s m args meth c) (q : z_Sg) (x1 : Int32) (x2 : Int64) (x5 : Int32) (t0 : Int32) (t1 : Int32) (h : k_Ar_shift_16 x1 x2 x5 t0 t1 q = some o) : ∀ (H : Heap) (locs : List Loc) (ls : Array Slot), z_wd D (z_K ad ca q) A s H locs → lv_has ls 7 [(0, .ref (ad 9)), (1, .int x1), (2, .long x2), (5, .int x5)] → W p l e (z_rm 3 91) s m args below meth c H locs 0 0 (z_ql below D (z_Kt ca) (z_K ad ca o.2) A s args o.1) (F0 m 16 ls [.int t1, .int t0]) := by
  obtain ⟨hx, hb, hr, hlk, hml, hown, hts, hK, hA⟩ := id C0
  intro H locs ls hw hl
  refine lv_iand hx hb d_Ar_shift_16 ?_
  obtain ⟨n2, en2, h⟩ := ok_n h
  refine z_ti en2 ?_
  refine lv_istore (lv' := [(6, .int n2), (0, .ref (ad 9)), (1, .int x1), (2, .long x2), (5, .int x5)]) hx hb d_Ar_shift_17 hl (by decide) rfl (fun ls hl => ?_)
  refine lv_iload hx hb d_Ar_shift_19 (lv_at hl 0 rfl) ?_
  refine lv_if_ne (tgt := 26) hx hb d_Ar_shift_21 (by decide) (fun c3 => ?_) (fun c3 => ?_)
  · have h := ok_f h c3
    refine lv_iload_n hx hb d_Ar_shift_26 rfl (lv_at hl 2 rfl) ?_
    by_cases c4 : x1 = (0 : Int32)
    · have h := ok_t h c4
      refine lv_tableIn (off := 37) (tgt := 64) hx hb d_Ar_shift_27 (by rw [c4]; decide) (by rw [c4]; decide) (by rw [c4]; rfl) (by decide) ?_
      refine lv_aload_n hx hb d_Ar_shift_64 rfl (lv_at hl 1 rfl) ?_
      refine lv_iconst (v := (1 : Int32)) hx hb d_Ar_shift_65 (by decide) ?_
      refine lv_lload_n hx hb d_Ar_shift_66 rfl (lv_at hl 3 rfl) ?_
      refine lv_iload hx hb d_Ar_shift_67 (lv_at hl 0 rfl) ?_
      refine lv_iload hx hb d_Ar_shift_69 (lv_at hl 4 rfl) ?_
      obtain ⟨r5, er5, h⟩ := ok_b h
      refine z_vl (rest := []) C0 hw (c_Ar_rotate (1 : Int32) x2 n2 x5 q r5 er5) mw_Ar_rotate ml_Ar_54 9 rfl ⟨Nat.le_of_ble_eq_true rfl, Nat.le_of_ble_eq_true rfl⟩ ⟨Nat.le_refl 0, Nat.le_refl 0⟩ rfl hl.1 rfl (Nat.le_of_ble_eq_true rfl) d_Ar_shift_71 (fun H locs hw => ?_)
      have ho := Option.some.inj h
      subst ho
      exact z_rtl C0 hw d_Ar_shift_74
    have h := ok_f h c4
    by_cases c6 : x1 = (1 : Int32)
    · have h := ok_t h c6
      refine lv_tableIn (off := 48) (tgt := 75) hx hb d_Ar_shift_27 (by rw [c6]; decide) (by rw [c6]; decide) (by rw [c6]; rfl) (by decide) ?_
      refine lv_aload_n hx hb d_Ar_shift_75 rfl (lv_at hl 1 rfl) ?_
      refine lv_iconst (v := (0 : Int32)) hx hb d_Ar_shift_76 (by decide) ?_
      refine lv_lload_n hx hb d_Ar_shift_77 rfl (lv_at hl 3 rfl) ?_
      refine lv_iload hx hb d_Ar_shift_78 (lv_at hl 0 rfl) ?_
      refine lv_iload hx hb d_Ar_shift_80 (lv_at hl 4 rfl) ?_
      obtain ⟨r7, er7, h⟩ := ok_b h
      refine z_vl (rest := []) C0 hw (c_Ar_rotate (0 : Int32) x2 n2 x5 q r7 er7) mw_Ar_rotate ml_Ar_54 9 rfl ⟨Nat.le_of_ble_eq_true rfl, Nat.le_of_ble_eq_true rfl⟩ ⟨Nat.le_refl 0, Nat.le_refl 0⟩ rfl hl.1 rfl (Nat.le_of_ble_eq_true rfl) d_Ar_shift_82 (fun H locs hw => ?_)
      have ho := Option.some.inj h
      subst ho
      exact z_rtl C0 hw d_Ar_shift_85
    have h := ok_f h c6
    by_cases c8 : x1 = (2 : Int32)
    · have h := ok_t h c8
      refine lv_tableIn (off := 59) (tgt := 86) hx hb d_Ar_shift_27 (by rw [c8]; decide) (by rw [c8]; decide) (by rw [c8]; rfl) (by decide) ?_
      refine lv_aload_n hx hb d_Ar_shift_86 rfl (lv_at hl 1 rfl) ?_
      refine lv_iconst (v := (1 : Int32)) hx hb d_Ar_shift_87 (by decide) ?_
      refine lv_lload_n hx hb d_Ar_shift_88 rfl (lv_at hl 3 rfl) ?_
      refine lv_iload hx hb d_Ar_shift_89 (lv_at hl 0 rfl) ?_
      refine lv_iload hx hb d_Ar_shift_91 (lv_at hl 4 rfl) ?_
      obtain ⟨r9, er9, h⟩ := ok_b h
      refine z_vl (rest := []) C0 hw (c_Ar_rotateThroughCarry (1 : Int32) x2 n2 x5 q r9 er9) mw_Ar_rotateThroughCarry ml_Ar_58 9 rfl ⟨Nat.le_of_ble_eq_true rfl, Nat.le_of_ble_eq_true rfl⟩ ⟨Nat.le_refl 0, Nat.le_refl 0⟩ rfl hl.1 rfl (Nat.le_of_ble_eq_true rfl) d_Ar_shift_93 (fun H locs hw => ?_)
      have ho := Option.some.inj h
      subst ho
      exact z_rtl C0 hw d_Ar_shift_96
    have h := ok_f h c8
    by_cases c10 : x1 = (3 : Int32)
    · have h := ok_t h c10
      refine lv_tableIn (off := 70) (tgt := 97) hx hb d_Ar_shift_27 (by rw [c10]; decide) (by rw [c10]; decide) (by rw [c10]; rfl) (by decide) ?_
      refine lv_aload_n hx hb d_Ar_shift_97 rfl (lv_at hl 1 rfl) ?_
      refine lv_iconst (v := (0 : Int32)) hx hb d_Ar_shift_98 (by decide) ?_
      refine lv_lload_n hx hb d_Ar_shift_99 rfl (lv_at hl 3 rfl) ?_
      refine lv_iload hx hb d_Ar_shift_100 (lv_at hl 0 rfl) ?_
      refine lv_iload hx hb d_Ar_shift_102 (lv_at hl 4 rfl) ?_
      obtain ⟨r11, er11, h⟩ := ok_b h
      refine z_vl (rest := []) C0 hw (c_Ar_rotateThroughCarry (0 : Int32) x2 n2 x5 q r11 er11) mw_Ar_rotateThroughCarry ml_Ar_58 9 rfl ⟨Nat.le_of_ble_eq_true rfl, Nat.le_of_ble_eq_true rfl⟩ ⟨Nat.le_refl 0, Nat.le_refl 0⟩ rfl hl.1 rfl (Nat.le_of_ble_eq_true rfl) d_Ar_shift_104 (fun H locs hw => ?_)
      have ho := Option.some.inj h
      subst ho
      exact z_rtl C0 hw d_Ar_shift_107
    have h := ok_f h c10
    by_cases c12 : x1 = (4 : Int32)
    · have h := ok_t h c12
      refine lv_tableIn (off := 81) (tgt := 108) hx hb d_Ar_shift_27 (by rw [c12]; decide) (by rw [c12]; decide) (by rw [c12]; rfl) (by decide) ?_
      refine lv_aload_n hx hb d_Ar_shift_108 rfl (lv_at hl 1 rfl) ?_
      refine lv_lload_n hx hb d_Ar_shift_109 rfl (lv_at hl 3 rfl) ?_
      refine lv_iload hx hb d_Ar_shift_110 (lv_at hl 0 rfl) ?_
      refine lv_iload hx hb d_Ar_shift_112 (lv_at hl 4 rfl) ?_
      obtain ⟨r13, er13, h⟩ := ok_b h
      refine z_vl (rest := []) C0 hw (c_Ar_shiftLeft x2 n2 x5 q r13 er13) mw_Ar_shiftLeft ml_Ar_61 9 rfl ⟨Nat.le_of_ble_eq_true rfl, Nat.le_of_ble_eq_true rfl⟩ ⟨Nat.le_refl 0, Nat.le_refl 0⟩ rfl hl.1 rfl (Nat.le_of_ble_eq_true rfl) d_Ar_shift_114 (fun H locs hw => ?_)
      have ho := Option.some.inj h
      subst ho
      exact z_rtl C0 hw d_Ar_shift_117
    have h := ok_f h c12
    by_cases c14 : x1 = (5 : Int32)
    · have h := ok_t h c14
      refine lv_tableIn (off := 91) (tgt := 118) hx hb d_Ar_shift_27 (by rw [c14]; decide) (by rw [c14]; decide) (by rw [c14]; rfl) (by decide) ?_
      refine lv_aload_n hx hb d_Ar_shift_118 rfl (lv_at hl 1 rfl) ?_
      refine lv_lload_n hx hb d_Ar_shift_119 rfl (lv_at hl 3 rfl) ?_
      refine lv_iload hx hb d_Ar_shift_120 (lv_at hl 0 rfl) ?_
      refine lv_iload hx hb d_Ar_shift_122 (lv_at hl 4 rfl) ?_
      obtain ⟨r15, er15, h⟩ := ok_b h
      refine z_vl (rest := []) C0 hw (c_Ar_shiftRight x2 n2 x5 q r15 er15) mw_Ar_shiftRight ml_Ar_65 9 rfl ⟨Nat.le_of_ble_eq_true rfl, Nat.le_of_ble_eq_true rfl⟩ ⟨Nat.le_refl 0, Nat.le_refl 0⟩ rfl hl.1 rfl (Nat.le_of_ble_eq_true rfl) d_Ar_shift_124 (fun H locs hw => ?_)
      have ho := Option.some.inj h
      subst ho
      exact z_rtl C0 hw d_Ar_shift_127
    have h := ok_f h c14
    refine lv_tableOut (tgt := 128) hx hb d_Ar_shift_27 (by have zc4 := lv_neT c4 (a := 0) rfl; have zc6 := lv_neT c6 (a := 1) rfl; have zc8 := lv_neT c8 (a := 2) rfl; have zc10 := lv_neT c10 (a := 3) rfl; have zc12 := lv_neT c12 (a := 4) rfl; have zc14 := lv_neT c14 (a := 5) rfl; omega) (by decide) ?_
    refine lv_aload_n hx hb d_Ar_shift_128 rfl (lv_at hl 1 rfl) ?_
    refine lv_lload_n hx hb d_Ar_shift_129 rfl (lv_at hl 3 rfl) ?_
    refine lv_iload hx hb d_Ar_shift_130 (lv_at hl 0 rfl) ?_
    refine lv_iload hx hb d_Ar_shift_132 (lv_at hl 4 rfl) ?_
    obtain ⟨r16, er16, h⟩ := ok_b h
    refine z_vl (rest := []) C0 hw (c_Ar_shiftSigned x2 n2 x5 q r16 er16) mw_Ar_shiftSigned ml_Ar_68 9 rfl ⟨Nat.le_of_ble_eq_true rfl, Nat.le_of_ble_eq_true rfl⟩ ⟨Nat.le_refl 0, Nat.le_refl 0⟩ rfl hl.1 rfl (Nat.le_of_ble_eq_true rfl) d_Ar_shift_134 (fun H locs hw => ?_)
    have ho := Option.some.inj h
    subst ho
    exact z_rtl C0 hw d_Ar_shift_137
  · have h := ok_t h c3
    refine lv_lload_n hx hb d_Ar_shift_24 rfl (lv_at hl 3 rfl) ?_
    have ho := Option.some.inj h
    subst ho
    exact z_rtl C0 hw d_Ar_shift_25
set_option maxHeartbeats 4000000 in
set_option maxRecDepth 100000 in
theorem c_Ar_shift {l : Launch} {D : va_G} {ad : Nat → Nat} {ca : Nat → ClassId} (x1 : Int32) (x2 : Int64) (x4 : Int32) (x5 : Int32) (q : z_Sg) (o : (Int64 × z_Sg)) (h : f_Ar_shift x1 x2 x4 x5 q = some o) : z_cl l y_Ar_shift b_Ar_shift 7 (some .long) 3 91 D (z_Kt ca) (z_K ad ca q) (z_K ad ca o.2) [.ref (ad 9), .int x1, .long x2, .int x4, .int x5] o.1 := by
  refine z_cl_of (own := z_RAr) (by decide) rfl ?_
  intro p e s m below meth c A C0 hw
  obtain ⟨hx, hb, hr, hlk, hml, hown, hts, hK, hA⟩ := id C0
  generalize hH : s.heap = H at hw ⊢
  generalize hlo : ([] : List Loc) = locs at hw ⊢
  refine z_entry (lv := [(0, .ref (ad 9)), (1, .int x1), (2, .long x2), (4, .int x4), (5, .int x5)]) (Nat.le_of_ble_eq_true rfl) rfl (fun ls hl => ?_)
  unfold f_Ar_shift at h
  refine lv_iload hx hb d_Ar_shift_0 (lv_at hl 3 rfl) ?_
  refine lv_iload hx hb d_Ar_shift_2 (lv_at hl 4 rfl) ?_
  refine lv_bipush (v := (8 : Int32)) hx hb d_Ar_shift_4 (by decide) ?_
  refine lv_icmp_ne (tgt := 14) hx hb d_Ar_shift_6 (by decide) (fun c1 => ?_) (fun c1 => ?_)
  · have h := ok_f h c1
    refine lv_bipush (v := (31 : Int32)) hx hb d_Ar_shift_14 (by decide) ?_
    exact w_Ar_shift_16 o C0 q x1 x2 x5 x4 (31 : Int32) h H locs ls hw (lv_sub hl [0, 1, 2, 4] rfl)
  · have h := ok_t h c1
    refine lv_bipush (v := (63 : Int32)) hx hb d_Ar_shift_9 (by decide) ?_
    refine lv_goto (tgt := 16) hx hb d_Ar_shift_11 (by decide) ?_
    exact w_Ar_shift_16 o C0 q x1 x2 x5 x4 (63 : Int32) h H locs ls hw (lv_sub hl [0, 1, 2, 4] rfl)
def k_Ar_neighbour_36 (x5 : Int32) (t0 : Int64) (q : z_Sg) : Option (Int64 × z_Sg) :=
  (f_Ar_settle (1 : Int32) x5 (0 : Int32) q).bind (fun r4 => some (t0, r4))
def f_Ar_neighbour (x1 : Int64) (x3 : Int32) (x4 : Int32) (q : z_Sg) : Option (Int64 × z_Sg) :=
  z_nm (((z_gI q 0) &&& (1 : Int32))) (fun n1 => if x3 = 0 then ((f_Ar_difference x1 (1 : Int64) (0 : Int64) x4 q).bind (fun r3 => k_Ar_neighbour_36 n1 r3.1 r3.2)) else ((f_Ar_sum x1 (1 : Int64) (0 : Int64) x4 q).bind (fun r5 => k_Ar_neighbour_36 n1 r5.1 r5.2)))
set_option maxHeartbeats 4000000 in
set_option maxRecDepth 100000 in
theorem w_Ar_neighbour_36 {p : Program} {l : Launch} {e : Env} {s : State} {m : MethodId} {args : Array Value} {below : List Frame} {meth : Method} {c : Code} {D : va_G} {A : Nat → Prop} {ad : Nat → Nat} {ca : Nat → ClassId} (o : (Int64 × z_Sg)) (C0 : z_cx z_RAr b_Ar_neighbour 8 (some .long) D (z_Kt ca) A p s m args meth c) (q : z_Sg) (x5 : Int32) (t0 : Int64) (h : k_Ar_neighbour_36 x5 t0 q = some o) : ∀ (H : Heap) (locs : List Loc) (ls : Array Slot), z_wd D (z_K ad ca q) A s H locs → lv_has ls 8 [(0, .ref (ad 9)), (5, .int x5)] → W p l e (z_rm 3 86) s m args below meth c H locs 0 0 (z_ql below D (z_Kt ca) (z_K ad ca o.2) A s args o.1) (F0 m 36 ls [.long t0]) := by
  obtain ⟨hx, hb, hr, hlk, hml, hown, hts, hK, hA⟩ := id C0
  intro H locs ls hw hl
  refine lv_lstore (lv' := [(6, .long t0), (0, .ref (ad 9)), (5, .int x5)]) hx hb d_Ar_neighbour_36 hl (by decide) rfl (fun ls hl => ?_)
  refine lv_aload_n hx hb d_Ar_neighbour_38 rfl (lv_at hl 1 rfl) ?_
  refine lv_iconst (v := (1 : Int32)) hx hb d_Ar_neighbour_39 (by decide) ?_
  refine lv_iload hx hb d_Ar_neighbour_40 (lv_at hl 2 rfl) ?_
  refine lv_iconst (v := (0 : Int32)) hx hb d_Ar_neighbour_42 (by decide) ?_
  obtain ⟨r4, er4, h⟩ := ok_b h
  refine z_vv (rest := []) C0 hw (c_Ar_settle (1 : Int32) x5 (0 : Int32) q r4 er4) mw_Ar_settle ml_Ar_32 9 rfl ⟨Nat.le_of_ble_eq_true rfl, Nat.le_of_ble_eq_true rfl⟩ ⟨Nat.le_refl 0, Nat.le_refl 0⟩ rfl hl.1 rfl (Nat.le_of_ble_eq_true rfl) d_Ar_neighbour_43 (fun H locs hw => ?_)
  refine lv_lload hx hb d_Ar_neighbour_46 (lv_at hl 0 rfl) ?_
  have ho := Option.some.inj h
  subst ho
  exact z_rtl C0 hw d_Ar_neighbour_48
set_option maxHeartbeats 4000000 in
set_option maxRecDepth 100000 in
theorem c_Ar_neighbour {l : Launch} {D : va_G} {ad : Nat → Nat} {ca : Nat → ClassId} (x1 : Int64) (x3 : Int32) (x4 : Int32) (q : z_Sg) (o : (Int64 × z_Sg)) (h : f_Ar_neighbour x1 x3 x4 q = some o) : z_cl l y_Ar_neighbour b_Ar_neighbour 8 (some .long) 3 86 D (z_Kt ca) (z_K ad ca q) (z_K ad ca o.2) [.ref (ad 9), .long x1, .int x3, .int x4] o.1 := by
  refine z_cl_of (own := z_RAr) (by decide) rfl ?_
  intro p e s m below meth c A C0 hw
  obtain ⟨hx, hb, hr, hlk, hml, hown, hts, hK, hA⟩ := id C0
  generalize hH : s.heap = H at hw ⊢
  generalize hlo : ([] : List Loc) = locs at hw ⊢
  refine z_entry (lv := [(0, .ref (ad 9)), (1, .long x1), (3, .int x3), (4, .int x4)]) (Nat.le_of_ble_eq_true rfl) rfl (fun ls hl => ?_)
  unfold f_Ar_neighbour at h
  refine lv_aload_n hx hb d_Ar_neighbour_0 rfl (lv_at hl 0 rfl) ?_
  refine gfK_9_state C0 hw fl_Ar_9 d_Ar_neighbour_1 ?_
  refine gfK_1_flags C0 hw fl_Ar_17 d_Ar_neighbour_4 ?_
  refine lv_iconst (v := (1 : Int32)) hx hb d_Ar_neighbour_7 (by decide) ?_
  refine lv_iand hx hb d_Ar_neighbour_8 ?_
  obtain ⟨n1, en1, h⟩ := ok_n h
  refine z_ti en1 ?_
  refine lv_istore (lv' := [(5, .int n1), (0, .ref (ad 9)), (1, .long x1), (3, .int x3), (4, .int x4)]) hx hb d_Ar_neighbour_9 hl (by decide) rfl (fun ls hl => ?_)
  refine lv_iload_n hx hb d_Ar_neighbour_11 rfl (lv_at hl 3 rfl) ?_
  refine lv_if_eq (tgt := 27) hx hb d_Ar_neighbour_12 (by decide) (fun c2 => ?_) (fun c2 => ?_)
  · have h := ok_t h c2
    refine lv_aload_n hx hb d_Ar_neighbour_27 rfl (lv_at hl 1 rfl) ?_
    refine lv_lload_n hx hb d_Ar_neighbour_28 rfl (lv_at hl 2 rfl) ?_
    refine lv_lconst (v := (1 : Int64)) hx hb d_Ar_neighbour_29 (by decide) ?_
    refine lv_lconst (v := (0 : Int64)) hx hb d_Ar_neighbour_30 (by decide) ?_
    refine lv_iload hx hb d_Ar_neighbour_31 (lv_at hl 4 rfl) ?_
    obtain ⟨r3, er3, h⟩ := ok_b h
    refine z_vl (rest := []) C0 hw (c_Ar_difference x1 (1 : Int64) (0 : Int64) x4 q r3 er3) mw_Ar_difference ml_Ar_47 9 rfl ⟨Nat.le_of_ble_eq_true rfl, Nat.le_of_ble_eq_true rfl⟩ ⟨Nat.le_refl 0, Nat.le_refl 0⟩ rfl hl.1 rfl (Nat.le_of_ble_eq_true rfl) d_Ar_neighbour_33 (fun H locs hw => ?_)
    exact w_Ar_neighbour_36 o C0 r3.2 n1 r3.1 h H locs ls hw (lv_sub hl [1, 0] rfl)
  · have h := ok_f h c2
    refine lv_aload_n hx hb d_Ar_neighbour_15 rfl (lv_at hl 1 rfl) ?_
    refine lv_lload_n hx hb d_Ar_neighbour_16 rfl (lv_at hl 2 rfl) ?_
    refine lv_lconst (v := (1 : Int64)) hx hb d_Ar_neighbour_17 (by decide) ?_
    refine lv_lconst (v := (0 : Int64)) hx hb d_Ar_neighbour_18 (by decide) ?_
    refine lv_iload hx hb d_Ar_neighbour_19 (lv_at hl 4 rfl) ?_
    obtain ⟨r5, er5, h⟩ := ok_b h
    refine z_vl (rest := []) C0 hw (c_Ar_sum x1 (1 : Int64) (0 : Int64) x4 q r5 er5) mw_Ar_sum ml_Ar_44 9 rfl ⟨Nat.le_of_ble_eq_true rfl, Nat.le_of_ble_eq_true rfl⟩ ⟨Nat.le_refl 0, Nat.le_refl 0⟩ rfl hl.1 rfl (Nat.le_of_ble_eq_true rfl) d_Ar_neighbour_21 (fun H locs hw => ?_)
    refine lv_goto (tgt := 36) hx hb d_Ar_neighbour_24 (by decide) ?_
    exact w_Ar_neighbour_36 o C0 r5.2 n1 r5.1 h H locs ls hw (lv_sub hl [1, 0] rfl)
def k_On_move_327 (q : z_Sg) : Option z_Sg :=
  some q
def k_On_move_140 (x1 : Int32) (q : z_Sg) : Option z_Sg :=
  (f_Op_value q).bind (fun r6 => (f_Op_g x1 q).bind (fun r7 => (f_Op_put r7 q).bind (fun r8 => (f_Op_putG r6 x1 r8).bind (fun r9 => k_On_move_327 r9))))
def k_On_move_175 (x1 : Int32) (q : z_Sg) : Option z_Sg :=
  (f_Op_g x1 q).bind (fun r12 => (f_Op_put r12 q).bind (fun r13 => k_On_move_327 r13))
def k_On_move_193 (x1 : Int32) (q : z_Sg) : Option z_Sg :=
  (f_Op_value q).bind (fun r16 => (f_Op_putG r16 x1 q).bind (fun r17 => k_On_move_327 r17))
def k_On_move_303 (x1 : Int32) (t1 : Int32) (t2 : Int64) (q : z_Sg) : Option z_Sg :=
  (f_Op_putPart t1 t2 x1 q).bind (fun r32 => k_On_move_327 r32)
def k_On_move_310 (q : z_Sg) : Option z_Sg :=
  (f_Op_put (z_gL q 9) q).bind (fun r34 => k_On_move_327 r34)
def f_On_move (x1 : Int32) (q : z_Sg) : Option z_Sg :=
  if (z_gI q 11) = (99 : Int32) then ((f_Op_value q).bind (fun r2 => (f_Ar_signed r2 (z_gI q 15) q).bind (fun r3 => (f_Op_putG r3 x1 q).bind (fun r4 => k_On_move_327 r4)))) else (if (z_gI q 11) = (134 : Int32) then (k_On_move_140 x1 q) else (if (z_gI q 11) = (135 : Int32) then (k_On_move_140 x1 q) else (if (z_gI q 11) = (136 : Int32) then (k_On_move_175 x1 q) else (if (z_gI q 11) = (137 : Int32) then (k_On_move_175 x1 q) else (if (z_gI q 11) = (138 : Int32) then (k_On_move_193 x1 q) else (if (z_gI q 11) = (139 : Int32) then (k_On_move_193 x1 q) else (if (z_gI q 11) = (141 : Int32) then ((f_De_placeOfE (0 : Int64) q).bind (fun r20 => (f_Op_putG r20 x1 q).bind (fun r21 => k_On_move_327 r21))) else (if (z_gI q 11) = (152 : Int32) then (if z_bad (0 : Int32) 16 then none else ((f_De_sizeV q).bind (fun r24 => (f_Ar_signed (z_gM q 0 (0 : Int32).toNatClampNeg) (r24 / (2 : Int32)) q).bind (fun r25 => (f_De_sizeV q).bind (fun r26 => (f_Op_putPart (0 : Int32) r25 r26 q).bind (fun r27 => k_On_move_327 r27)))))) else (if (z_gI q 11) = (153 : Int32) then (if z_bad (0 : Int32) 16 then none else ((f_Ar_signed (z_gM q 0 (0 : Int32).toNatClampNeg) x1 q).bind (fun r30 => if (0 : Int64) ≤ r30 then (k_On_move_303 x1 (2 : Int32) (0 : Int64) q) else (k_On_move_303 x1 (2 : Int32) (-1 : Int64) q)))) else (if (z_gI q 11) = (198 : Int32) then (k_On_move_310 q) else (if (z_gI q 11) = (199 : Int32) then (k_On_move_310 q) else (k_On_move_327 q))))))))))))
set_option maxHeartbeats 4000000 in
set_option maxRecDepth 100000 in
theorem w_On_move_327 {p : Program} {l : Launch} {e : Env} {s : State} {m : MethodId} {args : Array Value} {below : List Frame} {meth : Method} {c : Code} {D : va_G} {A : Nat → Prop} {ad : Nat → Nat} {ca : Nat → ClassId} (o : z_Sg) (C0 : z_cx z_ROn b_On_move 4 none D (z_Kt ca) A p s m args meth c) (q : z_Sg) (h : k_On_move_327 q = some o) : ∀ (H : Heap) (locs : List Loc) (ls : Array Slot), z_wd D (z_K ad ca q) A s H locs → lv_has ls 4 [] → W p l e (z_rm 3 73) s m args below meth c H locs 0 0 (z_qv below D (z_Kt ca) (z_K ad ca o) A s args) (F0 m 327 ls []) := by
  obtain ⟨hx, hb, hr, hlk, hml, hown, hts, hK, hA⟩ := id C0
  intro H locs ls hw hl
  have ho := Option.some.inj h
  subst ho
  exact z_rtv C0 hw d_On_move_327
set_option maxHeartbeats 4000000 in
set_option maxRecDepth 100000 in
theorem w_On_move_140 {p : Program} {l : Launch} {e : Env} {s : State} {m : MethodId} {args : Array Value} {below : List Frame} {meth : Method} {c : Code} {D : va_G} {A : Nat → Prop} {ad : Nat → Nat} {ca : Nat → ClassId} (o : z_Sg) (C0 : z_cx z_ROn b_On_move 4 none D (z_Kt ca) A p s m args meth c) (q : z_Sg) (x1 : Int32) (h : k_On_move_140 x1 q = some o) : ∀ (H : Heap) (locs : List Loc) (ls : Array Slot), z_wd D (z_K ad ca q) A s H locs → lv_has ls 4 [(0, .ref (ad 19)), (1, .int x1)] → W p l e (z_rm 3 73) s m args below meth c H locs 0 0 (z_qv below D (z_Kt ca) (z_K ad ca o) A s args) (F0 m 140 ls []) := by
  obtain ⟨hx, hb, hr, hlk, hml, hown, hts, hK, hA⟩ := id C0
  intro H locs ls hw hl
  refine lv_aload_n hx hb d_On_move_140 rfl (lv_at hl 0 rfl) ?_
  refine gfK_19_operands C0 hw fl_On_19 d_On_move_141 ?_
  obtain ⟨r6, er6, h⟩ := ok_b h
  refine z_vl (rest := []) C0 hw (c_Op_value q r6 er6) mw_Op_value ml_On_82 6 rfl ⟨Nat.le_of_ble_eq_true rfl, Nat.le_of_ble_eq_true rfl⟩ ⟨Nat.le_refl 0, Nat.le_refl 0⟩ rfl hl.1 rfl (Nat.le_of_ble_eq_true rfl) d_On_move_144 (fun H locs hw => ?_)
  refine lv_lstore_n (lv' := [(2, .long r6), (0, .ref (ad 19)), (1, .int x1)]) hx hb d_On_move_147 rfl hl (by decide) rfl (fun ls hl => ?_)
  refine lv_aload_n hx hb d_On_move_148 rfl (lv_at hl 1 rfl) ?_
  refine gfK_19_operands C0 hw fl_On_19 d_On_move_149 ?_
  refine lv_aload_n hx hb d_On_move_152 rfl (lv_at hl 1 rfl) ?_
  refine gfK_19_operands C0 hw fl_On_19 d_On_move_153 ?_
  refine lv_iload_n hx hb d_On_move_156 rfl (lv_at hl 2 rfl) ?_
  obtain ⟨r7, er7, h⟩ := ok_b h
  refine z_vl (rest := [.ref (ad 6)]) C0 hw (c_Op_g x1 q r7 er7) mw_Op_g ml_On_74 6 rfl ⟨Nat.le_of_ble_eq_true rfl, Nat.le_of_ble_eq_true rfl⟩ ⟨Nat.le_refl 0, Nat.le_refl 0⟩ rfl hl.1 rfl (Nat.le_of_ble_eq_true rfl) d_On_move_157 (fun H locs hw => ?_)
  obtain ⟨r8, er8, h⟩ := ok_b h
  refine z_vv (rest := []) C0 hw (c_Op_put r7 q r8 er8) mw_Op_put ml_On_95 6 rfl ⟨Nat.le_of_ble_eq_true rfl, Nat.le_of_ble_eq_true rfl⟩ ⟨Nat.le_refl 0, Nat.le_refl 0⟩ rfl hl.1 rfl (Nat.le_of_ble_eq_true rfl) d_On_move_160 (fun H locs hw => ?_)
  refine lv_aload_n hx hb d_On_move_163 rfl (lv_at hl 1 rfl) ?_
  refine gfK_19_operands C0 hw fl_On_19 d_On_move_164 ?_
  refine lv_lload_n hx hb d_On_move_167 rfl (lv_at hl 0 rfl) ?_
  refine lv_iload_n hx hb d_On_move_168 rfl (lv_at hl 2 rfl) ?_
  obtain ⟨r9, er9, h⟩ := ok_b h
  refine z_vv (rest := []) C0 hw (c_Op_putG r6 x1 r8 r9 er9) mw_Op_putG ml_On_91 6 rfl ⟨Nat.le_of_ble_eq_true rfl, Nat.le_of_ble_eq_true rfl⟩ ⟨Nat.le_refl 0, Nat.le_refl 0⟩ rfl hl.1 rfl (Nat.le_of_ble_eq_true rfl) d_On_move_169 (fun H locs hw => ?_)
  refine lv_goto (tgt := 327) hx hb d_On_move_172 (by decide) ?_
  exact w_On_move_327 o C0 r9 h H locs ls hw (lv_sub hl [] rfl)
set_option maxHeartbeats 4000000 in
set_option maxRecDepth 100000 in
theorem w_On_move_175 {p : Program} {l : Launch} {e : Env} {s : State} {m : MethodId} {args : Array Value} {below : List Frame} {meth : Method} {c : Code} {D : va_G} {A : Nat → Prop} {ad : Nat → Nat} {ca : Nat → ClassId} (o : z_Sg) (C0 : z_cx z_ROn b_On_move 4 none D (z_Kt ca) A p s m args meth c) (q : z_Sg) (x1 : Int32) (h : k_On_move_175 x1 q = some o) : ∀ (H : Heap) (locs : List Loc) (ls : Array Slot), z_wd D (z_K ad ca q) A s H locs → lv_has ls 4 [(0, .ref (ad 19)), (1, .int x1)] → W p l e (z_rm 3 73) s m args below meth c H locs 0 0 (z_qv below D (z_Kt ca) (z_K ad ca o) A s args) (F0 m 175 ls []) := by
  obtain ⟨hx, hb, hr, hlk, hml, hown, hts, hK, hA⟩ := id C0
  intro H locs ls hw hl
  refine lv_aload_n hx hb d_On_move_175 rfl (lv_at hl 0 rfl) ?_
  refine gfK_19_operands C0 hw fl_On_19 d_On_move_176 ?_
  refine lv_aload_n hx hb d_On_move_179 rfl (lv_at hl 0 rfl) ?_
  refine gfK_19_operands C0 hw fl_On_19 d_On_move_180 ?_
  refine lv_iload_n hx hb d_On_move_183 rfl (lv_at hl 1 rfl) ?_
  obtain ⟨r12, er12, h⟩ := ok_b h
  refine z_vl (rest := [.ref (ad 6)]) C0 hw (c_Op_g x1 q r12 er12) mw_Op_g ml_On_74 6 rfl ⟨Nat.le_of_ble_eq_true rfl, Nat.le_of_ble_eq_true rfl⟩ ⟨Nat.le_refl 0, Nat.le_refl 0⟩ rfl hl.1 rfl (Nat.le_of_ble_eq_true rfl) d_On_move_184 (fun H locs hw => ?_)
  obtain ⟨r13, er13, h⟩ := ok_b h
  refine z_vv (rest := []) C0 hw (c_Op_put r12 q r13 er13) mw_Op_put ml_On_95 6 rfl ⟨Nat.le_of_ble_eq_true rfl, Nat.le_of_ble_eq_true rfl⟩ ⟨Nat.le_refl 0, Nat.le_refl 0⟩ rfl hl.1 rfl (Nat.le_of_ble_eq_true rfl) d_On_move_187 (fun H locs hw => ?_)
  refine lv_goto (tgt := 327) hx hb d_On_move_190 (by decide) ?_
  exact w_On_move_327 o C0 r13 h H locs ls hw (lv_sub hl [] rfl)
set_option maxHeartbeats 4000000 in
set_option maxRecDepth 100000 in
theorem w_On_move_193 {p : Program} {l : Launch} {e : Env} {s : State} {m : MethodId} {args : Array Value} {below : List Frame} {meth : Method} {c : Code} {D : va_G} {A : Nat → Prop} {ad : Nat → Nat} {ca : Nat → ClassId} (o : z_Sg) (C0 : z_cx z_ROn b_On_move 4 none D (z_Kt ca) A p s m args meth c) (q : z_Sg) (x1 : Int32) (h : k_On_move_193 x1 q = some o) : ∀ (H : Heap) (locs : List Loc) (ls : Array Slot), z_wd D (z_K ad ca q) A s H locs → lv_has ls 4 [(0, .ref (ad 19)), (1, .int x1)] → W p l e (z_rm 3 73) s m args below meth c H locs 0 0 (z_qv below D (z_Kt ca) (z_K ad ca o) A s args) (F0 m 193 ls []) := by
  obtain ⟨hx, hb, hr, hlk, hml, hown, hts, hK, hA⟩ := id C0
  intro H locs ls hw hl
  refine lv_aload_n hx hb d_On_move_193 rfl (lv_at hl 0 rfl) ?_
  refine gfK_19_operands C0 hw fl_On_19 d_On_move_194 ?_
  refine lv_aload_n hx hb d_On_move_197 rfl (lv_at hl 0 rfl) ?_
  refine gfK_19_operands C0 hw fl_On_19 d_On_move_198 ?_
  obtain ⟨r16, er16, h⟩ := ok_b h
  refine z_vl (rest := [.ref (ad 6)]) C0 hw (c_Op_value q r16 er16) mw_Op_value ml_On_82 6 rfl ⟨Nat.le_of_ble_eq_true rfl, Nat.le_of_ble_eq_true rfl⟩ ⟨Nat.le_refl 0, Nat.le_refl 0⟩ rfl hl.1 rfl (Nat.le_of_ble_eq_true rfl) d_On_move_201 (fun H locs hw => ?_)
  refine lv_iload_n hx hb d_On_move_204 rfl (lv_at hl 1 rfl) ?_
  obtain ⟨r17, er17, h⟩ := ok_b h
  refine z_vv (rest := []) C0 hw (c_Op_putG r16 x1 q r17 er17) mw_Op_putG ml_On_91 6 rfl ⟨Nat.le_of_ble_eq_true rfl, Nat.le_of_ble_eq_true rfl⟩ ⟨Nat.le_refl 0, Nat.le_refl 0⟩ rfl hl.1 rfl (Nat.le_of_ble_eq_true rfl) d_On_move_205 (fun H locs hw => ?_)
  refine lv_goto (tgt := 327) hx hb d_On_move_208 (by decide) ?_
  exact w_On_move_327 o C0 r17 h H locs ls hw (lv_sub hl [] rfl)
set_option maxHeartbeats 4000000 in
set_option maxRecDepth 100000 in
theorem w_On_move_303 {p : Program} {l : Launch} {e : Env} {s : State} {m : MethodId} {args : Array Value} {below : List Frame} {meth : Method} {c : Code} {D : va_G} {A : Nat → Prop} {ad : Nat → Nat} {ca : Nat → ClassId} (o : z_Sg) (C0 : z_cx z_ROn b_On_move 4 none D (z_Kt ca) A p s m args meth c) (q : z_Sg) (x1 : Int32) (t1 : Int32) (t2 : Int64) (h : k_On_move_303 x1 t1 t2 q = some o) : ∀ (H : Heap) (locs : List Loc) (ls : Array Slot), z_wd D (z_K ad ca q) A s H locs → lv_has ls 4 [(1, .int x1)] → W p l e (z_rm 3 73) s m args below meth c H locs 0 0 (z_qv below D (z_Kt ca) (z_K ad ca o) A s args) (F0 m 303 ls [.long t2, .int t1, .ref (ad 6)]) := by
  obtain ⟨hx, hb, hr, hlk, hml, hown, hts, hK, hA⟩ := id C0
  intro H locs ls hw hl
  refine lv_iload_n hx hb d_On_move_303 rfl (lv_at hl 0 rfl) ?_
  obtain ⟨r32, er32, h⟩ := ok_b h
  refine z_vv (rest := []) C0 hw (c_Op_putPart t1 t2 x1 q r32 er32) mw_Op_putPart ml_On_48 6 rfl ⟨Nat.le_of_ble_eq_true rfl, Nat.le_of_ble_eq_true rfl⟩ ⟨Nat.le_refl 0, Nat.le_refl 0⟩ rfl hl.1 rfl (Nat.le_of_ble_eq_true rfl) d_On_move_304 (fun H locs hw => ?_)
  refine lv_goto (tgt := 327) hx hb d_On_move_307 (by decide) ?_
  exact w_On_move_327 o C0 r32 h H locs ls hw (lv_sub hl [] rfl)
set_option maxHeartbeats 4000000 in
set_option maxRecDepth 100000 in
theorem w_On_move_310 {p : Program} {l : Launch} {e : Env} {s : State} {m : MethodId} {args : Array Value} {below : List Frame} {meth : Method} {c : Code} {D : va_G} {A : Nat → Prop} {ad : Nat → Nat} {ca : Nat → ClassId} (o : z_Sg) (C0 : z_cx z_ROn b_On_move 4 none D (z_Kt ca) A p s m args meth c) (q : z_Sg) (h : k_On_move_310 q = some o) : ∀ (H : Heap) (locs : List Loc) (ls : Array Slot), z_wd D (z_K ad ca q) A s H locs → lv_has ls 4 [(0, .ref (ad 19))] → W p l e (z_rm 3 73) s m args below meth c H locs 0 0 (z_qv below D (z_Kt ca) (z_K ad ca o) A s args) (F0 m 310 ls []) := by
  obtain ⟨hx, hb, hr, hlk, hml, hown, hts, hK, hA⟩ := id C0
  intro H locs ls hw hl
  refine lv_aload_n hx hb d_On_move_310 rfl (lv_at hl 0 rfl) ?_
  refine gfK_19_operands C0 hw fl_On_19 d_On_move_311 ?_
  refine lv_aload_n hx hb d_On_move_314 rfl (lv_at hl 0 rfl) ?_
  refine gfK_19_code C0 hw fl_On_15 d_On_move_315 ?_
  refine gfK_5_number C0 hw fl_On_44 d_On_move_318 ?_
  obtain ⟨r34, er34, h⟩ := ok_b h
  refine z_vv (rest := []) C0 hw (c_Op_put (z_gL q 9) q r34 er34) mw_Op_put ml_On_95 6 rfl ⟨Nat.le_of_ble_eq_true rfl, Nat.le_of_ble_eq_true rfl⟩ ⟨Nat.le_refl 0, Nat.le_refl 0⟩ rfl hl.1 rfl (Nat.le_of_ble_eq_true rfl) d_On_move_321 (fun H locs hw => ?_)
  refine lv_goto (tgt := 327) hx hb d_On_move_324 (by decide) ?_
  exact w_On_move_327 o C0 r34 h H locs ls hw (lv_sub hl [] rfl)
set_option maxHeartbeats 4000000 in
set_option maxRecDepth 100000 in
theorem c_On_move {l : Launch} {D : va_G} {ad : Nat → Nat} {ca : Nat → ClassId} (x1 : Int32) (q : z_Sg) (o : z_Sg) (h : f_On_move x1 q = some o) : z_cv l y_On_move b_On_move 4 none 3 73 D (z_Kt ca) (z_K ad ca q) (z_K ad ca o) [.ref (ad 19), .int x1] := by
  refine z_cv_of (own := z_ROn) (by decide) rfl ?_
  intro p e s m below meth c A C0 hw
  obtain ⟨hx, hb, hr, hlk, hml, hown, hts, hK, hA⟩ := id C0
  generalize hH : s.heap = H at hw ⊢
  generalize hlo : ([] : List Loc) = locs at hw ⊢
  refine z_entry (lv := [(0, .ref (ad 19)), (1, .int x1)]) (Nat.le_of_ble_eq_true rfl) rfl (fun ls hl => ?_)
  unfold f_On_move at h
  refine lv_aload_n hx hb d_On_move_0 rfl (lv_at hl 0 rfl) ?_
  refine gfK_19_code C0 hw fl_On_15 d_On_move_1 ?_
  refine gfK_5_opcode C0 hw fl_On_31 d_On_move_4 ?_
  by_cases c1 : (z_gI q 11) = (99 : Int32)
  · have h := ok_t h c1
    refine lv_lookup (off := 105) (tgt := 112) hx hb d_On_move_7 (by decide) (by rw [c1]; rfl) (by decide) ?_
    refine lv_aload_n hx hb d_On_move_112 rfl (lv_at hl 0 rfl) ?_
    refine gfK_19_operands C0 hw fl_On_19 d_On_move_113 ?_
    refine lv_aload_n hx hb d_On_move_116 rfl (lv_at hl 0 rfl) ?_
    refine gfK_19_operands C0 hw fl_On_19 d_On_move_117 ?_
    obtain ⟨r2, er2, h⟩ := ok_b h
    refine z_vl (rest := [.ref (ad 6)]) C0 hw (c_Op_value q r2 er2) mw_Op_value ml_On_82 6 rfl ⟨Nat.le_of_ble_eq_true rfl, Nat.le_of_ble_eq_true rfl⟩ ⟨Nat.le_refl 0, Nat.le_refl 0⟩ rfl hl.1 rfl (Nat.le_of_ble_eq_true rfl) d_On_move_120 (fun H locs hw => ?_)
    refine lv_aload_n hx hb d_On_move_123 rfl (lv_at hl 0 rfl) ?_
    refine gfK_19_operands C0 hw fl_On_19 d_On_move_124 ?_
    refine gfK_6_bytes C0 hw fl_On_139 d_On_move_127 ?_
    obtain ⟨r3, er3, h⟩ := ok_b h
    refine z_sl (rest := [.ref (ad 6)]) C0 hw (c_Ar_signed r2 (z_gI q 15) q r3 er3) mw_Ar_signed ml_On_142 ⟨Nat.le_of_ble_eq_true rfl, Nat.le_of_ble_eq_true rfl⟩ ⟨Nat.le_refl 0, Nat.le_refl 0⟩ rfl hl.1 rfl (Nat.le_of_ble_eq_true rfl) d_On_move_130 (fun H locs hw => ?_)
    refine lv_iload_n hx hb d_On_move_133 rfl (lv_at hl 1 rfl) ?_
    obtain ⟨r4, er4, h⟩ := ok_b h
    refine z_vv (rest := []) C0 hw (c_Op_putG r3 x1 q r4 er4) mw_Op_putG ml_On_91 6 rfl ⟨Nat.le_of_ble_eq_true rfl, Nat.le_of_ble_eq_true rfl⟩ ⟨Nat.le_refl 0, Nat.le_refl 0⟩ rfl hl.1 rfl (Nat.le_of_ble_eq_true rfl) d_On_move_134 (fun H locs hw => ?_)
    refine lv_goto (tgt := 327) hx hb d_On_move_137 (by decide) ?_
    exact w_On_move_327 o C0 r4 h H locs ls hw (lv_sub hl [] rfl)
  have h := ok_f h c1
  by_cases c5 : (z_gI q 11) = (134 : Int32)
  · have h := ok_t h c5
    refine lv_lookup (off := 133) (tgt := 140) hx hb d_On_move_7 (by decide) (by rw [c5]; rfl) (by decide) ?_
    exact w_On_move_140 o C0 q x1 h H locs ls hw (lv_sub hl [0, 1] rfl)
  have h := ok_f h c5
  by_cases c10 : (z_gI q 11) = (135 : Int32)
  · have h := ok_t h c10
    refine lv_lookup (off := 133) (tgt := 140) hx hb d_On_move_7 (by decide) (by rw [c10]; rfl) (by decide) ?_
    exact w_On_move_140 o C0 q x1 h H locs ls hw (lv_sub hl [0, 1] rfl)
  have h := ok_f h c10
  by_cases c11 : (z_gI q 11) = (136 : Int32)
  · have h := ok_t h c11
    refine lv_lookup (off := 168) (tgt := 175) hx hb d_On_move_7 (by decide) (by rw [c11]; rfl) (by decide) ?_
    exact w_On_move_175 o C0 q x1 h H locs ls hw (lv_sub hl [0, 1] rfl)
  have h := ok_f h c11
  by_cases c14 : (z_gI q 11) = (137 : Int32)
  · have h := ok_t h c14
    refine lv_lookup (off := 168) (tgt := 175) hx hb d_On_move_7 (by decide) (by rw [c14]; rfl) (by decide) ?_
    exact w_On_move_175 o C0 q x1 h H locs ls hw (lv_sub hl [0, 1] rfl)
  have h := ok_f h c14
  by_cases c15 : (z_gI q 11) = (138 : Int32)
  · have h := ok_t h c15
    refine lv_lookup (off := 186) (tgt := 193) hx hb d_On_move_7 (by decide) (by rw [c15]; rfl) (by decide) ?_
    exact w_On_move_193 o C0 q x1 h H locs ls hw (lv_sub hl [0, 1] rfl)
  have h := ok_f h c15
  by_cases c18 : (z_gI q 11) = (139 : Int32)
  · have h := ok_t h c18
    refine lv_lookup (off := 186) (tgt := 193) hx hb d_On_move_7 (by decide) (by rw [c18]; rfl) (by decide) ?_
    exact w_On_move_193 o C0 q x1 h H locs ls hw (lv_sub hl [0, 1] rfl)
  have h := ok_f h c18
  by_cases c19 : (z_gI q 11) = (141 : Int32)
  · have h := ok_t h c19
    refine lv_lookup (off := 204) (tgt := 211) hx hb d_On_move_7 (by decide) (by rw [c19]; rfl) (by decide) ?_
    refine lv_aload_n hx hb d_On_move_211 rfl (lv_at hl 0 rfl) ?_
    refine gfK_19_operands C0 hw fl_On_19 d_On_move_212 ?_
    refine lv_aload_n hx hb d_On_move_215 rfl (lv_at hl 0 rfl) ?_
    refine gfK_19_code C0 hw fl_On_15 d_On_move_216 ?_
    refine lv_lconst (v := (0 : Int64)) hx hb d_On_move_219 (by decide) ?_
    obtain ⟨r20, er20, h⟩ := ok_b h
    refine z_vl (rest := [.ref (ad 6)]) C0 hw (c_De_placeOfE (0 : Int64) q r20 er20) mw_De_placeOfE ml_On_145 5 rfl ⟨Nat.le_of_ble_eq_true rfl, Nat.le_of_ble_eq_true rfl⟩ ⟨Nat.le_refl 0, Nat.le_refl 0⟩ rfl hl.1 rfl (Nat.le_of_ble_eq_true rfl) d_On_move_220 (fun H locs hw => ?_)
    refine lv_iload_n hx hb d_On_move_223 rfl (lv_at hl 1 rfl) ?_
    obtain ⟨r21, er21, h⟩ := ok_b h
    refine z_vv (rest := []) C0 hw (c_Op_putG r20 x1 q r21 er21) mw_Op_putG ml_On_91 6 rfl ⟨Nat.le_of_ble_eq_true rfl, Nat.le_of_ble_eq_true rfl⟩ ⟨Nat.le_refl 0, Nat.le_refl 0⟩ rfl hl.1 rfl (Nat.le_of_ble_eq_true rfl) d_On_move_224 (fun H locs hw => ?_)
    refine lv_goto (tgt := 327) hx hb d_On_move_227 (by decide) ?_
    exact w_On_move_327 o C0 r21 h H locs ls hw (lv_sub hl [] rfl)
  have h := ok_f h c19
  by_cases c22 : (z_gI q 11) = (152 : Int32)
  · have h := ok_t h c22
    refine lv_lookup (off := 223) (tgt := 230) hx hb d_On_move_7 (by decide) (by rw [c22]; rfl) (by decide) ?_
    refine lv_aload_n hx hb d_On_move_230 rfl (lv_at hl 0 rfl) ?_
    refine gfK_19_state C0 hw fl_On_9 d_On_move_231 ?_
    refine gfK_1_registers C0 hw fl_On_135 d_On_move_234 ?_
    refine lv_iconst (v := (0 : Int32)) hx hb d_On_move_237 (by decide) ?_
    obtain ⟨b23, h⟩ := ok_g h
    refine alK_2 C0 hw b23 d_On_move_238 ?_
    refine lv_aload_n hx hb d_On_move_239 rfl (lv_at hl 0 rfl) ?_
    refine gfK_19_code C0 hw fl_On_15 d_On_move_240 ?_
    obtain ⟨r24, er24, h⟩ := ok_b h
    refine z_vi (rest := [.long (z_gM q 0 (0 : Int32).toNatClampNeg)]) C0 hw (c_De_sizeV q r24 er24) mw_De_sizeV ml_On_54 5 rfl ⟨Nat.le_of_ble_eq_true rfl, Nat.le_of_ble_eq_true rfl⟩ ⟨Nat.le_refl 0, Nat.le_refl 0⟩ rfl hl.1 rfl (Nat.le_of_ble_eq_true rfl) d_On_move_243 (fun H locs hw => ?_)
    refine lv_iconst (v := (2 : Int32)) hx hb d_On_move_246 (by decide) ?_
    refine lv_idiv hx hb d_On_move_247 (by decide) ?_
    obtain ⟨r25, er25, h⟩ := ok_b h
    refine z_sl (rest := []) C0 hw (c_Ar_signed (z_gM q 0 (0 : Int32).toNatClampNeg) (r24 / (2 : Int32)) q r25 er25) mw_Ar_signed ml_On_142 ⟨Nat.le_of_ble_eq_true rfl, Nat.le_of_ble_eq_true rfl⟩ ⟨Nat.le_refl 0, Nat.le_refl 0⟩ rfl hl.1 rfl (Nat.le_of_ble_eq_true rfl) d_On_move_248 (fun H locs hw => ?_)
    refine lv_lstore_n (lv' := [(2, .long r25), (0, .ref (ad 19)), (1, .int x1)]) hx hb d_On_move_251 rfl hl (by decide) rfl (fun ls hl => ?_)
    refine lv_aload_n hx hb d_On_move_252 rfl (lv_at hl 1 rfl) ?_
    refine gfK_19_operands C0 hw fl_On_19 d_On_move_253 ?_
    refine lv_iconst (v := (0 : Int32)) hx hb d_On_move_256 (by decide) ?_
    refine lv_lload_n hx hb d_On_move_257 rfl (lv_at hl 0 rfl) ?_
    refine lv_aload_n hx hb d_On_move_258 rfl (lv_at hl 1 rfl) ?_
    refine gfK_19_code C0 hw fl_On_15 d_On_move_259 ?_
    obtain ⟨r26, er26, h⟩ := ok_b h
    refine z_vi (rest := [.long r25, .int (0 : Int32), .ref (ad 6)]) C0 hw (c_De_sizeV q r26 er26) mw_De_sizeV ml_On_54 5 rfl ⟨Nat.le_of_ble_eq_true rfl, Nat.le_of_ble_eq_true rfl⟩ ⟨Nat.le_refl 0, Nat.le_refl 0⟩ rfl hl.1 rfl (Nat.le_of_ble_eq_true rfl) d_On_move_262 (fun H locs hw => ?_)
    obtain ⟨r27, er27, h⟩ := ok_b h
    refine z_vv (rest := []) C0 hw (c_Op_putPart (0 : Int32) r25 r26 q r27 er27) mw_Op_putPart ml_On_48 6 rfl ⟨Nat.le_of_ble_eq_true rfl, Nat.le_of_ble_eq_true rfl⟩ ⟨Nat.le_refl 0, Nat.le_refl 0⟩ rfl hl.1 rfl (Nat.le_of_ble_eq_true rfl) d_On_move_265 (fun H locs hw => ?_)
    refine lv_goto (tgt := 327) hx hb d_On_move_268 (by decide) ?_
    exact w_On_move_327 o C0 r27 h H locs ls hw (lv_sub hl [] rfl)
  have h := ok_f h c22
  by_cases c28 : (z_gI q 11) = (153 : Int32)
  · have h := ok_t h c28
    refine lv_lookup (off := 264) (tgt := 271) hx hb d_On_move_7 (by decide) (by rw [c28]; rfl) (by decide) ?_
    refine lv_aload_n hx hb d_On_move_271 rfl (lv_at hl 0 rfl) ?_
    refine gfK_19_state C0 hw fl_On_9 d_On_move_272 ?_
    refine gfK_1_registers C0 hw fl_On_135 d_On_move_275 ?_
    refine lv_iconst (v := (0 : Int32)) hx hb d_On_move_278 (by decide) ?_
    obtain ⟨b29, h⟩ := ok_g h
    refine alK_2 C0 hw b29 d_On_move_279 ?_
    refine lv_iload_n hx hb d_On_move_280 rfl (lv_at hl 1 rfl) ?_
    obtain ⟨r30, er30, h⟩ := ok_b h
    refine z_sl (rest := []) C0 hw (c_Ar_signed (z_gM q 0 (0 : Int32).toNatClampNeg) x1 q r30 er30) mw_Ar_signed ml_On_142 ⟨Nat.le_of_ble_eq_true rfl, Nat.le_of_ble_eq_true rfl⟩ ⟨Nat.le_refl 0, Nat.le_refl 0⟩ rfl hl.1 rfl (Nat.le_of_ble_eq_true rfl) d_On_move_281 (fun H locs hw => ?_)
    refine lv_lstore_n (lv' := [(2, .long r30), (0, .ref (ad 19)), (1, .int x1)]) hx hb d_On_move_284 rfl hl (by decide) rfl (fun ls hl => ?_)
    refine lv_aload_n hx hb d_On_move_285 rfl (lv_at hl 1 rfl) ?_
    refine gfK_19_operands C0 hw fl_On_19 d_On_move_286 ?_
    refine lv_iconst (v := (2 : Int32)) hx hb d_On_move_289 (by decide) ?_
    refine lv_lload_n hx hb d_On_move_290 rfl (lv_at hl 0 rfl) ?_
    refine lv_lconst (v := (0 : Int64)) hx hb d_On_move_291 (by decide) ?_
    refine W.lcmp hx hb d_On_move_292 ?_
    refine lv_if_ge (tgt := 302) hx hb d_On_move_293 (by decide) (fun c31 => ?_) (fun c31 => ?_)
    · have h := ok_t h ((lg_cmp_ge _ _).mp c31)
      refine lv_lconst (v := (0 : Int64)) hx hb d_On_move_302 (by decide) ?_
      exact w_On_move_303 o C0 q x1 (2 : Int32) (0 : Int64) h H locs ls hw (lv_sub hl [2] rfl)
    · have h := ok_f h (fun z => c31 ((lg_cmp_ge _ _).mpr z))
      refine lv_ldc2 (own := z_ROn) hx hb hown (hts _ kl_On_149) d_On_move_296 ?_
      refine lv_goto (tgt := 303) hx hb d_On_move_299 (by decide) ?_
      exact w_On_move_303 o C0 q x1 (2 : Int32) (-1 : Int64) h H locs ls hw (lv_sub hl [2] rfl)
  have h := ok_f h c28
  by_cases c33 : (z_gI q 11) = (198 : Int32)
  · have h := ok_t h c33
    refine lv_lookup (off := 303) (tgt := 310) hx hb d_On_move_7 (by decide) (by rw [c33]; rfl) (by decide) ?_
    exact w_On_move_310 o C0 q h H locs ls hw (lv_sub hl [0] rfl)
  have h := ok_f h c33
  by_cases c35 : (z_gI q 11) = (199 : Int32)
  · have h := ok_t h c35
    refine lv_lookup (off := 303) (tgt := 310) hx hb d_On_move_7 (by decide) (by rw [c35]; rfl) (by decide) ?_
    exact w_On_move_310 o C0 q h H locs ls hw (lv_sub hl [0] rfl)
  have h := ok_f h c35
  refine lv_lookup (off := 320) (tgt := 327) hx hb d_On_move_7 (by decide) (by show Op.lookupswitch.offset [(99, 105), (134, 133), (135, 133), (136, 168), (137, 168), (138, 186), (139, 186), (141, 204), (152, 223), (153, 264), (198, 303), (199, 303)] _ _ = _; rw [lv_osw (a := 99) c1 rfl, lv_osw (a := 134) c5 rfl, lv_osw (a := 135) c10 rfl, lv_osw (a := 136) c11 rfl, lv_osw (a := 137) c14 rfl, lv_osw (a := 138) c15 rfl, lv_osw (a := 139) c18 rfl, lv_osw (a := 141) c19 rfl, lv_osw (a := 152) c22 rfl, lv_osw (a := 153) c28 rfl, lv_osw (a := 198) c33 rfl, lv_osw (a := 199) c35 rfl]; rfl) (by decide) ?_
  exact w_On_move_327 o C0 q h H locs ls hw (lv_sub hl [] rfl)
def k_On_executeSingle_432 (q : z_Sg) : Option z_Sg :=
  some q
def k_On_executeSingle_168 (x1 : Int32) (q : z_Sg) : Option z_Sg :=
  (f_Op_value q).bind (fun r2 => (f_Wi_multiply r2 (z_gL q 9) x1 (1 : Int32) q).bind (fun r3 => (f_Op_putG (z_gL r3 11) x1 r3).bind (fun r4 => k_On_executeSingle_432 r4)))
def k_On_executeSingle_209 (x1 : Int32) (q : z_Sg) : Option z_Sg :=
  (f_Op_value q).bind (fun r7 => (f_Op_g x1 q).bind (fun r8 => (f_Ar_logic (r7 &&& r8) x1 q).bind (fun r9 => k_On_executeSingle_432 r9.2)))
def k_On_executeSingle_237 (x1 : Int32) (q : z_Sg) : Option z_Sg :=
  (f_Op_part (0 : Int32) x1 q).bind (fun r12 => (f_Ar_logic (r12 &&& (z_gL q 9)) x1 q).bind (fun r13 => k_On_executeSingle_432 r13.2))
def k_On_executeSingle_266 (x1 : Int32) (q : z_Sg) : Option z_Sg :=
  (f_Op_value q).bind (fun r16 => (f_On_countOfShift q).bind (fun r17 => (f_Ar_shift (z_gI q 13) r16 r17 x1 q).bind (fun r18 => (f_Op_put r18.1 r18.2).bind (fun r19 => k_On_executeSingle_432 r19))))
def k_On_executeSingle_332 (x1 : Int32) (t2 : Int64) (t3 : Int32) (q : z_Sg) : Option z_Sg :=
  (f_Ar_neighbour t2 t3 x1 q).bind (fun r38 => (f_Op_put r38.1 r38.2).bind (fun r39 => k_On_executeSingle_432 r39))
def k_On_executeSingle_302 (x1 : Int32) (q : z_Sg) : Option z_Sg :=
  (f_Op_value q).bind (fun r36 => if (z_gI q 13) = 0 then (k_On_executeSingle_332 x1 r36 (1 : Int32) q) else (k_On_executeSingle_332 x1 r36 (0 : Int32) q))
def f_On_executeSingle (x1 : Int32) (q : z_Sg) : Option z_Sg :=
  if (z_gI q 11) = (105 : Int32) then (k_On_executeSingle_168 x1 q) else (if (z_gI q 11) = (107 : Int32) then (k_On_executeSingle_168 x1 q) else (if (z_gI q 11) = (132 : Int32) then (k_On_executeSingle_209 x1 q) else (if (z_gI q 11) = (133 : Int32) then (k_On_executeSingle_209 x1 q) else (if (z_gI q 11) = (168 : Int32) then (k_On_executeSingle_237 x1 q) else (if (z_gI q 11) = (169 : Int32) then (k_On_executeSingle_237 x1 q) else (if (z_gI q 11) = (192 : Int32) then (k_On_executeSingle_266 x1 q) else (if (z_gI q 11) = (193 : Int32) then (k_On_executeSingle_266 x1 q) else (if (z_gI q 11) = (208 : Int32) then (k_On_executeSingle_266 x1 q) else (if (z_gI q 11) = (209 : Int32) then (k_On_executeSingle_266 x1 q) else (if (z_gI q 11) = (210 : Int32) then (k_On_executeSingle_266 x1 q) else (if (z_gI q 11) = (211 : Int32) then (k_On_executeSingle_266 x1 q) else (if (z_gI q 11) = (245 : Int32) then (z_nm (z_sI q 0 ((z_gI q 0) ^^^ (1 : Int32))) (fun q26 => k_On_executeSingle_432 q26)) else (if (z_gI q 11) = (248 : Int32) then (z_nm (z_sI q 0 ((z_gI q 0) &&& (-2 : Int32))) (fun q28 => k_On_executeSingle_432 q28)) else (if (z_gI q 11) = (249 : Int32) then (z_nm (z_sI q 0 ((z_gI q 0) ||| (1 : Int32))) (fun q30 => k_On_executeSingle_432 q30)) else (if (z_gI q 11) = (252 : Int32) then (z_nm (z_sI q 0 ((z_gI q 0) &&& (-1025 : Int32))) (fun q32 => k_On_executeSingle_432 q32)) else (if (z_gI q 11) = (253 : Int32) then (z_nm (z_sI q 0 ((z_gI q 0) ||| (1024 : Int32))) (fun q34 => k_On_executeSingle_432 q34)) else (if (z_gI q 11) = (254 : Int32) then (k_On_executeSingle_302 x1 q) else (if (z_gI q 11) = (255 : Int32) then (k_On_executeSingle_302 x1 q) else ((f_On_move x1 q).bind (fun r41 => k_On_executeSingle_432 r41))))))))))))))))))))
set_option maxHeartbeats 4000000 in
set_option maxRecDepth 100000 in
theorem w_On_executeSingle_432 {p : Program} {l : Launch} {e : Env} {s : State} {m : MethodId} {args : Array Value} {below : List Frame} {meth : Method} {c : Code} {D : va_G} {A : Nat → Prop} {ad : Nat → Nat} {ca : Nat → ClassId} (o : z_Sg) (C0 : z_cx z_ROn b_On_executeSingle 2 none D (z_Kt ca) A p s m args meth c) (q : z_Sg) (h : k_On_executeSingle_432 q = some o) : ∀ (H : Heap) (locs : List Loc) (ls : Array Slot), z_wd D (z_K ad ca q) A s H locs → lv_has ls 2 [] → W p l e (z_rm 4 117) s m args below meth c H locs 0 0 (z_qv below D (z_Kt ca) (z_K ad ca o) A s args) (F0 m 432 ls []) := by
  obtain ⟨hx, hb, hr, hlk, hml, hown, hts, hK, hA⟩ := id C0
  intro H locs ls hw hl
  have ho := Option.some.inj h
  subst ho
  exact z_rtv C0 hw d_On_executeSingle_432
set_option maxHeartbeats 4000000 in
set_option maxRecDepth 100000 in
theorem w_On_executeSingle_168 {p : Program} {l : Launch} {e : Env} {s : State} {m : MethodId} {args : Array Value} {below : List Frame} {meth : Method} {c : Code} {D : va_G} {A : Nat → Prop} {ad : Nat → Nat} {ca : Nat → ClassId} (o : z_Sg) (C0 : z_cx z_ROn b_On_executeSingle 2 none D (z_Kt ca) A p s m args meth c) (q : z_Sg) (x1 : Int32) (h : k_On_executeSingle_168 x1 q = some o) : ∀ (H : Heap) (locs : List Loc) (ls : Array Slot), z_wd D (z_K ad ca q) A s H locs → lv_has ls 2 [(0, .ref (ad 19)), (1, .int x1)] → W p l e (z_rm 4 117) s m args below meth c H locs 0 0 (z_qv below D (z_Kt ca) (z_K ad ca o) A s args) (F0 m 168 ls []) := by
  obtain ⟨hx, hb, hr, hlk, hml, hown, hts, hK, hA⟩ := id C0
  intro H locs ls hw hl
  refine lv_aload_n hx hb d_On_executeSingle_168 rfl (lv_at hl 0 rfl) ?_
  refine gfK_19_wide C0 hw fl_On_27 d_On_executeSingle_169 ?_
  refine lv_aload_n hx hb d_On_executeSingle_172 rfl (lv_at hl 0 rfl) ?_
  refine gfK_19_operands C0 hw fl_On_19 d_On_executeSingle_173 ?_
  obtain ⟨r2, er2, h⟩ := ok_b h
  refine z_vl (rest := [.ref (ad 10)]) C0 hw (c_Op_value q r2 er2) mw_Op_value ml_On_82 6 rfl ⟨Nat.le_of_ble_eq_true rfl, Nat.le_of_ble_eq_true rfl⟩ ⟨Nat.le_refl 0, Nat.le_refl 0⟩ rfl hl.1 rfl (Nat.le_of_ble_eq_true rfl) d_On_executeSingle_176 (fun H locs hw => ?_)
  refine lv_aload_n hx hb d_On_executeSingle_179 rfl (lv_at hl 0 rfl) ?_
  refine gfK_19_code C0 hw fl_On_15 d_On_executeSingle_180 ?_
  refine gfK_5_number C0 hw fl_On_44 d_On_executeSingle_183 ?_
  refine lv_iload_n hx hb d_On_executeSingle_186 rfl (lv_at hl 1 rfl) ?_
  refine lv_iconst (v := (1 : Int32)) hx hb d_On_executeSingle_187 (by decide) ?_
  obtain ⟨r3, er3, h⟩ := ok_b h
  refine z_vv (rest := []) C0 hw (c_Wi_multiply r2 (z_gL q 9) x1 (1 : Int32) q r3 er3) mw_Wi_multiply ml_On_103 10 rfl ⟨Nat.le_of_ble_eq_true rfl, Nat.le_of_ble_eq_true rfl⟩ ⟨Nat.le_refl 0, Nat.le_refl 0⟩ rfl hl.1 rfl (Nat.le_of_ble_eq_true rfl) d_On_executeSingle_188 (fun H locs hw => ?_)
  refine lv_aload_n hx hb d_On_executeSingle_191 rfl (lv_at hl 0 rfl) ?_
  refine gfK_19_operands C0 hw fl_On_19 d_On_executeSingle_192 ?_
  refine lv_aload_n hx hb d_On_executeSingle_195 rfl (lv_at hl 0 rfl) ?_
  refine gfK_19_wide C0 hw fl_On_27 d_On_executeSingle_196 ?_
  refine gfK_10_low C0 hw fl_On_109 d_On_executeSingle_199 ?_
  refine lv_iload_n hx hb d_On_executeSingle_202 rfl (lv_at hl 1 rfl) ?_
  obtain ⟨r4, er4, h⟩ := ok_b h
  refine z_vv (rest := []) C0 hw (c_Op_putG (z_gL r3 11) x1 r3 r4 er4) mw_Op_putG ml_On_91 6 rfl ⟨Nat.le_of_ble_eq_true rfl, Nat.le_of_ble_eq_true rfl⟩ ⟨Nat.le_refl 0, Nat.le_refl 0⟩ rfl hl.1 rfl (Nat.le_of_ble_eq_true rfl) d_On_executeSingle_203 (fun H locs hw => ?_)
  refine lv_goto (tgt := 432) hx hb d_On_executeSingle_206 (by decide) ?_
  exact w_On_executeSingle_432 o C0 r4 h H locs ls hw (lv_sub hl [] rfl)
set_option maxHeartbeats 4000000 in
set_option maxRecDepth 100000 in
theorem w_On_executeSingle_209 {p : Program} {l : Launch} {e : Env} {s : State} {m : MethodId} {args : Array Value} {below : List Frame} {meth : Method} {c : Code} {D : va_G} {A : Nat → Prop} {ad : Nat → Nat} {ca : Nat → ClassId} (o : z_Sg) (C0 : z_cx z_ROn b_On_executeSingle 2 none D (z_Kt ca) A p s m args meth c) (q : z_Sg) (x1 : Int32) (h : k_On_executeSingle_209 x1 q = some o) : ∀ (H : Heap) (locs : List Loc) (ls : Array Slot), z_wd D (z_K ad ca q) A s H locs → lv_has ls 2 [(0, .ref (ad 19)), (1, .int x1)] → W p l e (z_rm 4 117) s m args below meth c H locs 0 0 (z_qv below D (z_Kt ca) (z_K ad ca o) A s args) (F0 m 209 ls []) := by
  obtain ⟨hx, hb, hr, hlk, hml, hown, hts, hK, hA⟩ := id C0
  intro H locs ls hw hl
  refine lv_aload_n hx hb d_On_executeSingle_209 rfl (lv_at hl 0 rfl) ?_
  refine gfK_19_arithmetic C0 hw fl_On_23 d_On_executeSingle_210 ?_
  refine lv_aload_n hx hb d_On_executeSingle_213 rfl (lv_at hl 0 rfl) ?_
  refine gfK_19_operands C0 hw fl_On_19 d_On_executeSingle_214 ?_
  obtain ⟨r7, er7, h⟩ := ok_b h
  refine z_vl (rest := [.ref (ad 9)]) C0 hw (c_Op_value q r7 er7) mw_Op_value ml_On_82 6 rfl ⟨Nat.le_of_ble_eq_true rfl, Nat.le_of_ble_eq_true rfl⟩ ⟨Nat.le_refl 0, Nat.le_refl 0⟩ rfl hl.1 rfl (Nat.le_of_ble_eq_true rfl) d_On_executeSingle_217 (fun H locs hw => ?_)
  refine lv_aload_n hx hb d_On_executeSingle_220 rfl (lv_at hl 0 rfl) ?_
  refine gfK_19_operands C0 hw fl_On_19 d_On_executeSingle_221 ?_
  refine lv_iload_n hx hb d_On_executeSingle_224 rfl (lv_at hl 1 rfl) ?_
  obtain ⟨r8, er8, h⟩ := ok_b h
  refine z_vl (rest := [.long r7, .ref (ad 9)]) C0 hw (c_Op_g x1 q r8 er8) mw_Op_g ml_On_74 6 rfl ⟨Nat.le_of_ble_eq_true rfl, Nat.le_of_ble_eq_true rfl⟩ ⟨Nat.le_refl 0, Nat.le_refl 0⟩ rfl hl.1 rfl (Nat.le_of_ble_eq_true rfl) d_On_executeSingle_225 (fun H locs hw => ?_)
  refine lv_land hx hb d_On_executeSingle_228 ?_
  refine lv_iload_n hx hb d_On_executeSingle_229 rfl (lv_at hl 1 rfl) ?_
  obtain ⟨r9, er9, h⟩ := ok_b h
  refine z_vl (rest := []) C0 hw (c_Ar_logic (r7 &&& r8) x1 q r9 er9) mw_Ar_logic ml_On_112 9 rfl ⟨Nat.le_of_ble_eq_true rfl, Nat.le_of_ble_eq_true rfl⟩ ⟨Nat.le_refl 0, Nat.le_refl 0⟩ rfl hl.1 rfl (Nat.le_of_ble_eq_true rfl) d_On_executeSingle_230 (fun H locs hw => ?_)
  refine lv_pop2_2 hx hb d_On_executeSingle_233 rfl ?_
  refine lv_goto (tgt := 432) hx hb d_On_executeSingle_234 (by decide) ?_
  exact w_On_executeSingle_432 o C0 r9.2 h H locs ls hw (lv_sub hl [] rfl)
set_option maxHeartbeats 4000000 in
set_option maxRecDepth 100000 in
theorem w_On_executeSingle_237 {p : Program} {l : Launch} {e : Env} {s : State} {m : MethodId} {args : Array Value} {below : List Frame} {meth : Method} {c : Code} {D : va_G} {A : Nat → Prop} {ad : Nat → Nat} {ca : Nat → ClassId} (o : z_Sg) (C0 : z_cx z_ROn b_On_executeSingle 2 none D (z_Kt ca) A p s m args meth c) (q : z_Sg) (x1 : Int32) (h : k_On_executeSingle_237 x1 q = some o) : ∀ (H : Heap) (locs : List Loc) (ls : Array Slot), z_wd D (z_K ad ca q) A s H locs → lv_has ls 2 [(0, .ref (ad 19)), (1, .int x1)] → W p l e (z_rm 4 117) s m args below meth c H locs 0 0 (z_qv below D (z_Kt ca) (z_K ad ca o) A s args) (F0 m 237 ls []) := by
  obtain ⟨hx, hb, hr, hlk, hml, hown, hts, hK, hA⟩ := id C0
  intro H locs ls hw hl
  refine lv_aload_n hx hb d_On_executeSingle_237 rfl (lv_at hl 0 rfl) ?_
  refine gfK_19_arithmetic C0 hw fl_On_23 d_On_executeSingle_238 ?_
  refine lv_aload_n hx hb d_On_executeSingle_241 rfl (lv_at hl 0 rfl) ?_
  refine gfK_19_operands C0 hw fl_On_19 d_On_executeSingle_242 ?_
  refine lv_iconst (v := (0 : Int32)) hx hb d_On_executeSingle_245 (by decide) ?_
  refine lv_iload_n hx hb d_On_executeSingle_246 rfl (lv_at hl 1 rfl) ?_
  obtain ⟨r12, er12, h⟩ := ok_b h
  refine z_vl (rest := [.ref (ad 9)]) C0 hw (c_Op_part (0 : Int32) x1 q r12 er12) mw_Op_part ml_On_78 6 rfl ⟨Nat.le_of_ble_eq_true rfl, Nat.le_of_ble_eq_true rfl⟩ ⟨Nat.le_refl 0, Nat.le_refl 0⟩ rfl hl.1 rfl (Nat.le_of_ble_eq_true rfl) d_On_executeSingle_247 (fun H locs hw => ?_)
  refine lv_aload_n hx hb d_On_executeSingle_250 rfl (lv_at hl 0 rfl) ?_
  refine gfK_19_code C0 hw fl_On_15 d_On_executeSingle_251 ?_
  refine gfK_5_number C0 hw fl_On_44 d_On_executeSingle_254 ?_
  refine lv_land hx hb d_On_executeSingle_257 ?_
  refine lv_iload_n hx hb d_On_executeSingle_258 rfl (lv_at hl 1 rfl) ?_
  obtain ⟨r13, er13, h⟩ := ok_b h
  refine z_vl (rest := []) C0 hw (c_Ar_logic (r12 &&& (z_gL q 9)) x1 q r13 er13) mw_Ar_logic ml_On_112 9 rfl ⟨Nat.le_of_ble_eq_true rfl, Nat.le_of_ble_eq_true rfl⟩ ⟨Nat.le_refl 0, Nat.le_refl 0⟩ rfl hl.1 rfl (Nat.le_of_ble_eq_true rfl) d_On_executeSingle_259 (fun H locs hw => ?_)
  refine lv_pop2_2 hx hb d_On_executeSingle_262 rfl ?_
  refine lv_goto (tgt := 432) hx hb d_On_executeSingle_263 (by decide) ?_
  exact w_On_executeSingle_432 o C0 r13.2 h H locs ls hw (lv_sub hl [] rfl)
set_option maxHeartbeats 4000000 in
set_option maxRecDepth 100000 in
theorem w_On_executeSingle_266 {p : Program} {l : Launch} {e : Env} {s : State} {m : MethodId} {args : Array Value} {below : List Frame} {meth : Method} {c : Code} {D : va_G} {A : Nat → Prop} {ad : Nat → Nat} {ca : Nat → ClassId} (o : z_Sg) (C0 : z_cx z_ROn b_On_executeSingle 2 none D (z_Kt ca) A p s m args meth c) (q : z_Sg) (x1 : Int32) (h : k_On_executeSingle_266 x1 q = some o) : ∀ (H : Heap) (locs : List Loc) (ls : Array Slot), z_wd D (z_K ad ca q) A s H locs → lv_has ls 2 [(0, .ref (ad 19)), (1, .int x1)] → W p l e (z_rm 4 117) s m args below meth c H locs 0 0 (z_qv below D (z_Kt ca) (z_K ad ca o) A s args) (F0 m 266 ls []) := by
  obtain ⟨hx, hb, hr, hlk, hml, hown, hts, hK, hA⟩ := id C0
  intro H locs ls hw hl
  refine lv_aload_n hx hb d_On_executeSingle_266 rfl (lv_at hl 0 rfl) ?_
  refine gfK_19_operands C0 hw fl_On_19 d_On_executeSingle_267 ?_
  refine lv_aload_n hx hb d_On_executeSingle_270 rfl (lv_at hl 0 rfl) ?_
  refine gfK_19_arithmetic C0 hw fl_On_23 d_On_executeSingle_271 ?_
  refine lv_aload_n hx hb d_On_executeSingle_274 rfl (lv_at hl 0 rfl) ?_
  refine gfK_19_code C0 hw fl_On_15 d_On_executeSingle_275 ?_
  refine gfK_5_reg C0 hw fl_On_64 d_On_executeSingle_278 ?_
  refine lv_aload_n hx hb d_On_executeSingle_281 rfl (lv_at hl 0 rfl) ?_
  refine gfK_19_operands C0 hw fl_On_19 d_On_executeSingle_282 ?_
  obtain ⟨r16, er16, h⟩ := ok_b h
  refine z_vl (rest := [.int (z_gI q 13), .ref (ad 9), .ref (ad 6)]) C0 hw (c_Op_value q r16 er16) mw_Op_value ml_On_82 6 rfl ⟨Nat.le_of_ble_eq_true rfl, Nat.le_of_ble_eq_true rfl⟩ ⟨Nat.le_refl 0, Nat.le_refl 0⟩ rfl hl.1 rfl (Nat.le_of_ble_eq_true rfl) d_On_executeSingle_285 (fun H locs hw => ?_)
  refine lv_aload_n hx hb d_On_executeSingle_288 rfl (lv_at hl 0 rfl) ?_
  obtain ⟨r17, er17, h⟩ := ok_b h
  refine z_vi (rest := [.long r16, .int (z_gI q 13), .ref (ad 9), .ref (ad 6)]) C0 hw (c_On_countOfShift q r17 er17) mw_On_countOfShift ml_On_116 19 rfl ⟨Nat.le_of_ble_eq_true rfl, Nat.le_of_ble_eq_true rfl⟩ ⟨Nat.le_refl 0, Nat.le_refl 0⟩ rfl hl.1 rfl (Nat.le_of_ble_eq_true rfl) d_On_executeSingle_289 (fun H locs hw => ?_)
  refine lv_iload_n hx hb d_On_executeSingle_292 rfl (lv_at hl 1 rfl) ?_
  obtain ⟨r18, er18, h⟩ := ok_b h
  refine z_vl (rest := [.ref (ad 6)]) C0 hw (c_Ar_shift (z_gI q 13) r16 r17 x1 q r18 er18) mw_Ar_shift ml_On_119 9 rfl ⟨Nat.le_of_ble_eq_true rfl, Nat.le_of_ble_eq_true rfl⟩ ⟨Nat.le_refl 0, Nat.le_refl 0⟩ rfl hl.1 rfl (Nat.le_of_ble_eq_true rfl) d_On_executeSingle_293 (fun H locs hw => ?_)
  obtain ⟨r19, er19, h⟩ := ok_b h
  refine z_vv (rest := []) C0 hw (c_Op_put r18.1 r18.2 r19 er19) mw_Op_put ml_On_95 6 rfl ⟨Nat.le_of_ble_eq_true rfl, Nat.le_of_ble_eq_true rfl⟩ ⟨Nat.le_refl 0, Nat.le_refl 0⟩ rfl hl.1 rfl (Nat.le_of_ble_eq_true rfl) d_On_executeSingle_296 (fun H locs hw => ?_)
  refine lv_goto (tgt := 432) hx hb d_On_executeSingle_299 (by decide) ?_
  exact w_On_executeSingle_432 o C0 r19 h H locs ls hw (lv_sub hl [] rfl)
set_option maxHeartbeats 4000000 in
set_option maxRecDepth 100000 in
theorem w_On_executeSingle_332 {p : Program} {l : Launch} {e : Env} {s : State} {m : MethodId} {args : Array Value} {below : List Frame} {meth : Method} {c : Code} {D : va_G} {A : Nat → Prop} {ad : Nat → Nat} {ca : Nat → ClassId} (o : z_Sg) (C0 : z_cx z_ROn b_On_executeSingle 2 none D (z_Kt ca) A p s m args meth c) (q : z_Sg) (x1 : Int32) (t2 : Int64) (t3 : Int32) (h : k_On_executeSingle_332 x1 t2 t3 q = some o) : ∀ (H : Heap) (locs : List Loc) (ls : Array Slot), z_wd D (z_K ad ca q) A s H locs → lv_has ls 2 [(1, .int x1)] → W p l e (z_rm 4 117) s m args below meth c H locs 0 0 (z_qv below D (z_Kt ca) (z_K ad ca o) A s args) (F0 m 332 ls [.int t3, .long t2, .ref (ad 9), .ref (ad 6)]) := by
  obtain ⟨hx, hb, hr, hlk, hml, hown, hts, hK, hA⟩ := id C0
  intro H locs ls hw hl
  refine lv_iload_n hx hb d_On_executeSingle_332 rfl (lv_at hl 0 rfl) ?_
  obtain ⟨r38, er38, h⟩ := ok_b h
  refine z_vl (rest := [.ref (ad 6)]) C0 hw (c_Ar_neighbour t2 t3 x1 q r38 er38) mw_Ar_neighbour ml_On_123 9 rfl ⟨Nat.le_of_ble_eq_true rfl, Nat.le_of_ble_eq_true rfl⟩ ⟨Nat.le_refl 0, Nat.le_refl 0⟩ rfl hl.1 rfl (Nat.le_of_ble_eq_true rfl) d_On_executeSingle_333 (fun H locs hw => ?_)
  obtain ⟨r39, er39, h⟩ := ok_b h
  refine z_vv (rest := []) C0 hw (c_Op_put r38.1 r38.2 r39 er39) mw_Op_put ml_On_95 6 rfl ⟨Nat.le_of_ble_eq_true rfl, Nat.le_of_ble_eq_true rfl⟩ ⟨Nat.le_refl 0, Nat.le_refl 0⟩ rfl hl.1 rfl (Nat.le_of_ble_eq_true rfl) d_On_executeSingle_336 (fun H locs hw => ?_)
  refine lv_goto (tgt := 432) hx hb d_On_executeSingle_339 (by decide) ?_
  exact w_On_executeSingle_432 o C0 r39 h H locs ls hw (lv_sub hl [] rfl)
set_option maxHeartbeats 4000000 in
set_option maxRecDepth 100000 in
theorem w_On_executeSingle_302 {p : Program} {l : Launch} {e : Env} {s : State} {m : MethodId} {args : Array Value} {below : List Frame} {meth : Method} {c : Code} {D : va_G} {A : Nat → Prop} {ad : Nat → Nat} {ca : Nat → ClassId} (o : z_Sg) (C0 : z_cx z_ROn b_On_executeSingle 2 none D (z_Kt ca) A p s m args meth c) (q : z_Sg) (x1 : Int32) (h : k_On_executeSingle_302 x1 q = some o) : ∀ (H : Heap) (locs : List Loc) (ls : Array Slot), z_wd D (z_K ad ca q) A s H locs → lv_has ls 2 [(0, .ref (ad 19)), (1, .int x1)] → W p l e (z_rm 4 117) s m args below meth c H locs 0 0 (z_qv below D (z_Kt ca) (z_K ad ca o) A s args) (F0 m 302 ls []) := by
  obtain ⟨hx, hb, hr, hlk, hml, hown, hts, hK, hA⟩ := id C0
  intro H locs ls hw hl
  refine lv_aload_n hx hb d_On_executeSingle_302 rfl (lv_at hl 0 rfl) ?_
  refine gfK_19_operands C0 hw fl_On_19 d_On_executeSingle_303 ?_
  refine lv_aload_n hx hb d_On_executeSingle_306 rfl (lv_at hl 0 rfl) ?_
  refine gfK_19_arithmetic C0 hw fl_On_23 d_On_executeSingle_307 ?_
  refine lv_aload_n hx hb d_On_executeSingle_310 rfl (lv_at hl 0 rfl) ?_
  refine gfK_19_operands C0 hw fl_On_19 d_On_executeSingle_311 ?_
  obtain ⟨r36, er36, h⟩ := ok_b h
  refine z_vl (rest := [.ref (ad 9), .ref (ad 6)]) C0 hw (c_Op_value q r36 er36) mw_Op_value ml_On_82 6 rfl ⟨Nat.le_of_ble_eq_true rfl, Nat.le_of_ble_eq_true rfl⟩ ⟨Nat.le_refl 0, Nat.le_refl 0⟩ rfl hl.1 rfl (Nat.le_of_ble_eq_true rfl) d_On_executeSingle_314 (fun H locs hw => ?_)
  refine lv_aload_n hx hb d_On_executeSingle_317 rfl (lv_at hl 0 rfl) ?_
  refine gfK_19_code C0 hw fl_On_15 d_On_executeSingle_318 ?_
  refine gfK_5_reg C0 hw fl_On_64 d_On_executeSingle_321 ?_
  refine lv_if_ne (tgt := 331) hx hb d_On_executeSingle_324 (by decide) (fun c37 => ?_) (fun c37 => ?_)
  · have h := ok_f h c37
    refine lv_iconst (v := (0 : Int32)) hx hb d_On_executeSingle_331 (by decide) ?_
    exact w_On_executeSingle_332 o C0 q x1 r36 (0 : Int32) h H locs ls hw (lv_sub hl [1] rfl)
  · have h := ok_t h c37
    refine lv_iconst (v := (1 : Int32)) hx hb d_On_executeSingle_327 (by decide) ?_
    refine lv_goto (tgt := 332) hx hb d_On_executeSingle_328 (by decide) ?_
    exact w_On_executeSingle_332 o C0 q x1 r36 (1 : Int32) h H locs ls hw (lv_sub hl [1] rfl)
set_option maxHeartbeats 4000000 in
set_option maxRecDepth 100000 in
theorem c_On_executeSingle {l : Launch} {D : va_G} {ad : Nat → Nat} {ca : Nat → ClassId} (x1 : Int32) (q : z_Sg) (o : z_Sg) (h : f_On_executeSingle x1 q = some o) : z_cv l y_On_executeSingle b_On_executeSingle 2 none 4 117 D (z_Kt ca) (z_K ad ca q) (z_K ad ca o) [.ref (ad 19), .int x1] := by
  refine z_cv_of (own := z_ROn) (by decide) rfl ?_
  intro p e s m below meth c A C0 hw
  obtain ⟨hx, hb, hr, hlk, hml, hown, hts, hK, hA⟩ := id C0
  generalize hH : s.heap = H at hw ⊢
  generalize hlo : ([] : List Loc) = locs at hw ⊢
  refine z_entry (lv := [(0, .ref (ad 19)), (1, .int x1)]) (Nat.le_of_ble_eq_true rfl) rfl (fun ls hl => ?_)
  unfold f_On_executeSingle at h
  refine lv_aload_n hx hb d_On_executeSingle_0 rfl (lv_at hl 0 rfl) ?_
  refine gfK_19_code C0 hw fl_On_15 d_On_executeSingle_1 ?_
  refine gfK_5_opcode C0 hw fl_On_31 d_On_executeSingle_4 ?_
  by_cases c1 : (z_gI q 11) = (105 : Int32)
  · have h := ok_t h c1
    refine lv_lookup (off := 161) (tgt := 168) hx hb d_On_executeSingle_7 (by decide) (by rw [c1]; rfl) (by decide) ?_
    exact w_On_executeSingle_168 o C0 q x1 h H locs ls hw (lv_sub hl [0, 1] rfl)
  have h := ok_f h c1
  by_cases c5 : (z_gI q 11) = (107 : Int32)
  · have h := ok_t h c5
    refine lv_lookup (off := 161) (tgt := 168) hx hb d_On_executeSingle_7 (by decide) (by rw [c5]; rfl) (by decide) ?_
    exact w_On_executeSingle_168 o C0 q x1 h H locs ls hw (lv_sub hl [0, 1] rfl)
  have h := ok_f h c5
  by_cases c6 : (z_gI q 11) = (132 : Int32)
  · have h := ok_t h c6
    refine lv_lookup (off := 202) (tgt := 209) hx hb d_On_executeSingle_7 (by decide) (by rw [c6]; rfl) (by decide) ?_
    exact w_On_executeSingle_209 o C0 q x1 h H locs ls hw (lv_sub hl [0, 1] rfl)
  have h := ok_f h c6
  by_cases c10 : (z_gI q 11) = (133 : Int32)
  · have h := ok_t h c10
    refine lv_lookup (off := 202) (tgt := 209) hx hb d_On_executeSingle_7 (by decide) (by rw [c10]; rfl) (by decide) ?_
    exact w_On_executeSingle_209 o C0 q x1 h H locs ls hw (lv_sub hl [0, 1] rfl)
  have h := ok_f h c10
  by_cases c11 : (z_gI q 11) = (168 : Int32)
  · have h := ok_t h c11
    refine lv_lookup (off := 230) (tgt := 237) hx hb d_On_executeSingle_7 (by decide) (by rw [c11]; rfl) (by decide) ?_
    exact w_On_executeSingle_237 o C0 q x1 h H locs ls hw (lv_sub hl [0, 1] rfl)
  have h := ok_f h c11
  by_cases c14 : (z_gI q 11) = (169 : Int32)
  · have h := ok_t h c14
    refine lv_lookup (off := 230) (tgt := 237) hx hb d_On_executeSingle_7 (by decide) (by rw [c14]; rfl) (by decide) ?_
    exact w_On_executeSingle_237 o C0 q x1 h H locs ls hw (lv_sub hl [0, 1] rfl)
  have h := ok_f h c14
  by_cases c15 : (z_gI q 11) = (192 : Int32)
  · have h := ok_t h c15
    refine lv_lookup (off := 259) (tgt := 266) hx hb d_On_executeSingle_7 (by decide) (by rw [c15]; rfl) (by decide) ?_
    exact w_On_executeSingle_266 o C0 q x1 h H locs ls hw (lv_sub hl [0, 1] rfl)
  have h := ok_f h c15
  by_cases c20 : (z_gI q 11) = (193 : Int32)
  · have h := ok_t h c20
    refine lv_lookup (off := 259) (tgt := 266) hx hb d_On_executeSingle_7 (by decide) (by rw [c20]; rfl) (by decide) ?_
    exact w_On_executeSingle_266 o C0 q x1 h H locs ls hw (lv_sub hl [0, 1] rfl)
  have h := ok_f h c20
  by_cases c21 : (z_gI q 11) = (208 : Int32)
  · have h := ok_t h c21
    refine lv_lookup (off := 259) (tgt := 266) hx hb d_On_executeSingle_7 (by decide) (by rw [c21]; rfl) (by decide) ?_
    exact w_On_executeSingle_266 o C0 q x1 h H locs ls hw (lv_sub hl [0, 1] rfl)
  have h := ok_f h c21
  by_cases c22 : (z_gI q 11) = (209 : Int32)
  · have h := ok_t h c22
    refine lv_lookup (off := 259) (tgt := 266) hx hb d_On_executeSingle_7 (by decide) (by rw [c22]; rfl) (by decide) ?_
    exact w_On_executeSingle_266 o C0 q x1 h H locs ls hw (lv_sub hl [0, 1] rfl)
  have h := ok_f h c22
  by_cases c23 : (z_gI q 11) = (210 : Int32)
  · have h := ok_t h c23
    refine lv_lookup (off := 259) (tgt := 266) hx hb d_On_executeSingle_7 (by decide) (by rw [c23]; rfl) (by decide) ?_
    exact w_On_executeSingle_266 o C0 q x1 h H locs ls hw (lv_sub hl [0, 1] rfl)
  have h := ok_f h c23
  by_cases c24 : (z_gI q 11) = (211 : Int32)
  · have h := ok_t h c24
    refine lv_lookup (off := 259) (tgt := 266) hx hb d_On_executeSingle_7 (by decide) (by rw [c24]; rfl) (by decide) ?_
    exact w_On_executeSingle_266 o C0 q x1 h H locs ls hw (lv_sub hl [0, 1] rfl)
  have h := ok_f h c24
  by_cases c25 : (z_gI q 11) = (245 : Int32)
  · have h := ok_t h c25
    refine lv_lookup (off := 335) (tgt := 342) hx hb d_On_executeSingle_7 (by decide) (by rw [c25]; rfl) (by decide) ?_
    refine lv_aload_n hx hb d_On_executeSingle_342 rfl (lv_at hl 0 rfl) ?_
    refine gfK_19_state C0 hw fl_On_9 d_On_executeSingle_343 ?_
    refine lv_dup hx hb d_On_executeSingle_346 rfl ?_
    refine gfK_1_flags C0 hw fl_On_127 d_On_executeSingle_347 ?_
    refine lv_iconst (v := (1 : Int32)) hx hb d_On_executeSingle_350 (by decide) ?_
    refine lv_ixor hx hb d_On_executeSingle_351 ?_
    refine pfK_1_flags C0 hw fl_On_127 d_On_executeSingle_352 (fun H locs hw => ?_)
    obtain ⟨q26, eq26, h⟩ := ok_n h
    rw [← eq26] at hw
    refine lv_goto (tgt := 432) hx hb d_On_executeSingle_355 (by decide) ?_
    exact w_On_executeSingle_432 o C0 q26 h H locs ls hw (lv_sub hl [] rfl)
  have h := ok_f h c25
  by_cases c27 : (z_gI q 11) = (248 : Int32)
  · have h := ok_t h c27
    refine lv_lookup (off := 351) (tgt := 358) hx hb d_On_executeSingle_7 (by decide) (by rw [c27]; rfl) (by decide) ?_
    refine lv_aload_n hx hb d_On_executeSingle_358 rfl (lv_at hl 0 rfl) ?_
    refine gfK_19_state C0 hw fl_On_9 d_On_executeSingle_359 ?_
    refine lv_dup hx hb d_On_executeSingle_362 rfl ?_
    refine gfK_1_flags C0 hw fl_On_127 d_On_executeSingle_363 ?_
    refine lv_bipush (v := (-2 : Int32)) hx hb d_On_executeSingle_366 (by decide) ?_
    refine lv_iand hx hb d_On_executeSingle_368 ?_
    refine pfK_1_flags C0 hw fl_On_127 d_On_executeSingle_369 (fun H locs hw => ?_)
    obtain ⟨q28, eq28, h⟩ := ok_n h
    rw [← eq28] at hw
    refine lv_goto (tgt := 432) hx hb d_On_executeSingle_372 (by decide) ?_
    exact w_On_executeSingle_432 o C0 q28 h H locs ls hw (lv_sub hl [] rfl)
  have h := ok_f h c27
  by_cases c29 : (z_gI q 11) = (249 : Int32)
  · have h := ok_t h c29
    refine lv_lookup (off := 368) (tgt := 375) hx hb d_On_executeSingle_7 (by decide) (by rw [c29]; rfl) (by decide) ?_
    refine lv_aload_n hx hb d_On_executeSingle_375 rfl (lv_at hl 0 rfl) ?_
    refine gfK_19_state C0 hw fl_On_9 d_On_executeSingle_376 ?_
    refine lv_dup hx hb d_On_executeSingle_379 rfl ?_
    refine gfK_1_flags C0 hw fl_On_127 d_On_executeSingle_380 ?_
    refine lv_iconst (v := (1 : Int32)) hx hb d_On_executeSingle_383 (by decide) ?_
    refine lv_ior hx hb d_On_executeSingle_384 ?_
    refine pfK_1_flags C0 hw fl_On_127 d_On_executeSingle_385 (fun H locs hw => ?_)
    obtain ⟨q30, eq30, h⟩ := ok_n h
    rw [← eq30] at hw
    refine lv_goto (tgt := 432) hx hb d_On_executeSingle_388 (by decide) ?_
    exact w_On_executeSingle_432 o C0 q30 h H locs ls hw (lv_sub hl [] rfl)
  have h := ok_f h c29
  by_cases c31 : (z_gI q 11) = (252 : Int32)
  · have h := ok_t h c31
    refine lv_lookup (off := 384) (tgt := 391) hx hb d_On_executeSingle_7 (by decide) (by rw [c31]; rfl) (by decide) ?_
    refine lv_aload_n hx hb d_On_executeSingle_391 rfl (lv_at hl 0 rfl) ?_
    refine gfK_19_state C0 hw fl_On_9 d_On_executeSingle_392 ?_
    refine lv_dup hx hb d_On_executeSingle_395 rfl ?_
    refine gfK_1_flags C0 hw fl_On_127 d_On_executeSingle_396 ?_
    refine lv_sipush (v := (-1025 : Int32)) hx hb d_On_executeSingle_399 (by decide) ?_
    refine lv_iand hx hb d_On_executeSingle_402 ?_
    refine pfK_1_flags C0 hw fl_On_127 d_On_executeSingle_403 (fun H locs hw => ?_)
    obtain ⟨q32, eq32, h⟩ := ok_n h
    rw [← eq32] at hw
    refine lv_goto (tgt := 432) hx hb d_On_executeSingle_406 (by decide) ?_
    exact w_On_executeSingle_432 o C0 q32 h H locs ls hw (lv_sub hl [] rfl)
  have h := ok_f h c31
  by_cases c33 : (z_gI q 11) = (253 : Int32)
  · have h := ok_t h c33
    refine lv_lookup (off := 402) (tgt := 409) hx hb d_On_executeSingle_7 (by decide) (by rw [c33]; rfl) (by decide) ?_
    refine lv_aload_n hx hb d_On_executeSingle_409 rfl (lv_at hl 0 rfl) ?_
    refine gfK_19_state C0 hw fl_On_9 d_On_executeSingle_410 ?_
    refine lv_dup hx hb d_On_executeSingle_413 rfl ?_
    refine gfK_1_flags C0 hw fl_On_127 d_On_executeSingle_414 ?_
    refine lv_sipush (v := (1024 : Int32)) hx hb d_On_executeSingle_417 (by decide) ?_
    refine lv_ior hx hb d_On_executeSingle_420 ?_
    refine pfK_1_flags C0 hw fl_On_127 d_On_executeSingle_421 (fun H locs hw => ?_)
    obtain ⟨q34, eq34, h⟩ := ok_n h
    rw [← eq34] at hw
    refine lv_goto (tgt := 432) hx hb d_On_executeSingle_424 (by decide) ?_
    exact w_On_executeSingle_432 o C0 q34 h H locs ls hw (lv_sub hl [] rfl)
  have h := ok_f h c33
  by_cases c35 : (z_gI q 11) = (254 : Int32)
  · have h := ok_t h c35
    refine lv_lookup (off := 295) (tgt := 302) hx hb d_On_executeSingle_7 (by decide) (by rw [c35]; rfl) (by decide) ?_
    exact w_On_executeSingle_302 o C0 q x1 h H locs ls hw (lv_sub hl [0, 1] rfl)
  have h := ok_f h c35
  by_cases c40 : (z_gI q 11) = (255 : Int32)
  · have h := ok_t h c40
    refine lv_lookup (off := 295) (tgt := 302) hx hb d_On_executeSingle_7 (by decide) (by rw [c40]; rfl) (by decide) ?_
    exact w_On_executeSingle_302 o C0 q x1 h H locs ls hw (lv_sub hl [0, 1] rfl)
  have h := ok_f h c40
  refine lv_lookup (off := 420) (tgt := 427) hx hb d_On_executeSingle_7 (by decide) (by show Op.lookupswitch.offset [(105, 161), (107, 161), (132, 202), (133, 202), (168, 230), (169, 230), (192, 259), (193, 259), (208, 259), (209, 259), (210, 259), (211, 259), (245, 335), (248, 351), (249, 368), (252, 384), (253, 402), (254, 295), (255, 295)] _ _ = _; rw [lv_osw (a := 105) c1 rfl, lv_osw (a := 107) c5 rfl, lv_osw (a := 132) c6 rfl, lv_osw (a := 133) c10 rfl, lv_osw (a := 168) c11 rfl, lv_osw (a := 169) c14 rfl, lv_osw (a := 192) c15 rfl, lv_osw (a := 193) c20 rfl, lv_osw (a := 208) c21 rfl, lv_osw (a := 209) c22 rfl, lv_osw (a := 210) c23 rfl, lv_osw (a := 211) c24 rfl, lv_osw (a := 245) c25 rfl, lv_osw (a := 248) c27 rfl, lv_osw (a := 249) c29 rfl, lv_osw (a := 252) c31 rfl, lv_osw (a := 253) c33 rfl, lv_osw (a := 254) c35 rfl, lv_osw (a := 255) c40 rfl]; rfl) (by decide) ?_
  refine lv_aload_n hx hb d_On_executeSingle_427 rfl (lv_at hl 0 rfl) ?_
  refine lv_iload_n hx hb d_On_executeSingle_428 rfl (lv_at hl 1 rfl) ?_
  obtain ⟨r41, er41, h⟩ := ok_b h
  refine z_vv (rest := []) C0 hw (c_On_move x1 q r41 er41) mw_On_move ml_On_132 19 rfl ⟨Nat.le_of_ble_eq_true rfl, Nat.le_of_ble_eq_true rfl⟩ ⟨Nat.le_refl 0, Nat.le_refl 0⟩ rfl hl.1 rfl (Nat.le_of_ble_eq_true rfl) d_On_executeSingle_429 (fun H locs hw => ?_)
  exact w_On_executeSingle_432 o C0 r41 h H locs ls hw (lv_sub hl [] rfl)
def k_Ar_combine_124 (x2 : Int64) (x4 : Int64) (x6 : Int32) (q : z_Sg) : Option (Int64 × z_Sg) :=
  (f_Ar_difference x2 x4 (0 : Int64) x6 q).bind (fun r13 => some (r13.1, r13.2))
def f_Ar_combine (x1 : Int32) (x2 : Int64) (x4 : Int64) (x6 : Int32) (q : z_Sg) : Option (Int64 × z_Sg) :=
  z_nm ((((z_gI q 0) &&& (1 : Int32)).toInt64)) (fun n1 => if x1 = (0 : Int32) then ((f_Ar_sum x2 x4 (0 : Int64) x6 q).bind (fun r3 => some (r3.1, r3.2))) else (if x1 = (1 : Int32) then ((f_Ar_logic (x2 ||| x4) x6 q).bind (fun r5 => some (r5.1, r5.2))) else (if x1 = (2 : Int32) then ((f_Ar_sum x2 x4 n1 x6 q).bind (fun r7 => some (r7.1, r7.2))) else (if x1 = (3 : Int32) then ((f_Ar_difference x2 x4 n1 x6 q).bind (fun r9 => some (r9.1, r9.2))) else (if x1 = (4 : Int32) then ((f_Ar_logic (x2 &&& x4) x6 q).bind (fun r11 => some (r11.1, r11.2))) else (if x1 = (5 : Int32) then (k_Ar_combine_124 x2 x4 x6 q) else (if x1 = (6 : Int32) then ((f_Ar_logic (x2 ^^^ x4) x6 q).bind (fun r15 => some (r15.1, r15.2))) else (k_Ar_combine_124 x2 x4 x6 q))))))))
set_option maxHeartbeats 4000000 in
set_option maxRecDepth 100000 in
theorem w_Ar_combine_124 {p : Program} {l : Launch} {e : Env} {s : State} {m : MethodId} {args : Array Value} {below : List Frame} {meth : Method} {c : Code} {D : va_G} {A : Nat → Prop} {ad : Nat → Nat} {ca : Nat → ClassId} (o : (Int64 × z_Sg)) (C0 : z_cx z_RAr b_Ar_combine 9 (some .long) D (z_Kt ca) A p s m args meth c) (q : z_Sg) (x2 : Int64) (x4 : Int64) (x6 : Int32) (h : k_Ar_combine_124 x2 x4 x6 q = some o) : ∀ (H : Heap) (locs : List Loc) (ls : Array Slot), z_wd D (z_K ad ca q) A s H locs → lv_has ls 9 [(0, .ref (ad 9)), (2, .long x2), (4, .long x4), (6, .int x6)] → W p l e (z_rm 3 86) s m args below meth c H locs 0 0 (z_ql below D (z_Kt ca) (z_K ad ca o.2) A s args o.1) (F0 m 124 ls []) := by
  obtain ⟨hx, hb, hr, hlk, hml, hown, hts, hK, hA⟩ := id C0
  intro H locs ls hw hl
  refine lv_aload_n hx hb d_Ar_combine_124 rfl (lv_at hl 0 rfl) ?_
  refine lv_lload_n hx hb d_Ar_combine_125 rfl (lv_at hl 1 rfl) ?_
  refine lv_lload hx hb d_Ar_combine_126 (lv_at hl 2 rfl) ?_
  refine lv_lconst (v := (0 : Int64)) hx hb d_Ar_combine_128 (by decide) ?_
  refine lv_iload hx hb d_Ar_combine_129 (lv_at hl 3 rfl) ?_
  obtain ⟨r13, er13, h⟩ := ok_b h
  refine z_vl (rest := []) C0 hw (c_Ar_difference x2 x4 (0 : Int64) x6 q r13 er13) mw_Ar_difference ml_Ar_47 9 rfl ⟨Nat.le_of_ble_eq_true rfl, Nat.le_of_ble_eq_true rfl⟩ ⟨Nat.le_refl 0, Nat.le_refl 0⟩ rfl hl.1 rfl (Nat.le_of_ble_eq_true rfl) d_Ar_combine_131 (fun H locs hw => ?_)
  have ho := Option.some.inj h
  subst ho
  exact z_rtl C0 hw d_Ar_combine_134
set_option maxHeartbeats 4000000 in
set_option maxRecDepth 100000 in
theorem c_Ar_combine {l : Launch} {D : va_G} {ad : Nat → Nat} {ca : Nat → ClassId} (x1 : Int32) (x2 : Int64) (x4 : Int64) (x6 : Int32) (q : z_Sg) (o : (Int64 × z_Sg)) (h : f_Ar_combine x1 x2 x4 x6 q = some o) : z_cl l y_Ar_combine b_Ar_combine 9 (some .long) 3 86 D (z_Kt ca) (z_K ad ca q) (z_K ad ca o.2) [.ref (ad 9), .int x1, .long x2, .long x4, .int x6] o.1 := by
  refine z_cl_of (own := z_RAr) (by decide) rfl ?_
  intro p e s m below meth c A C0 hw
  obtain ⟨hx, hb, hr, hlk, hml, hown, hts, hK, hA⟩ := id C0
  generalize hH : s.heap = H at hw ⊢
  generalize hlo : ([] : List Loc) = locs at hw ⊢
  refine z_entry (lv := [(0, .ref (ad 9)), (1, .int x1), (2, .long x2), (4, .long x4), (6, .int x6)]) (Nat.le_of_ble_eq_true rfl) rfl (fun ls hl => ?_)
  unfold f_Ar_combine at h
  refine lv_aload_n hx hb d_Ar_combine_0 rfl (lv_at hl 0 rfl) ?_
  refine gfK_9_state C0 hw fl_Ar_9 d_Ar_combine_1 ?_
  refine gfK_1_flags C0 hw fl_Ar_17 d_Ar_combine_4 ?_
  refine lv_iconst (v := (1 : Int32)) hx hb d_Ar_combine_7 (by decide) ?_
  refine lv_iand hx hb d_Ar_combine_8 ?_
  refine lv_i2l hx hb d_Ar_combine_9 rfl ?_
  obtain ⟨n1, en1, h⟩ := ok_n h
  refine z_tl en1 ?_
  refine lv_lstore (lv' := [(7, .long n1), (0, .ref (ad 9)), (1, .int x1), (2, .long x2), (4, .long x4), (6, .int x6)]) hx hb d_Ar_combine_10 hl (by decide) rfl (fun ls hl => ?_)
  refine lv_iload_n hx hb d_Ar_combine_12 rfl (lv_at hl 2 rfl) ?_
  by_cases c2 : x1 = (0 : Int32)
  · have h := ok_t h c2
    refine lv_tableIn (off := 43) (tgt := 56) hx hb d_Ar_combine_13 (by rw [c2]; decide) (by rw [c2]; decide) (by rw [c2]; rfl) (by decide) ?_
    refine lv_aload_n hx hb d_Ar_combine_56 rfl (lv_at hl 1 rfl) ?_
    refine lv_lload_n hx hb d_Ar_combine_57 rfl (lv_at hl 3 rfl) ?_
    refine lv_lload hx hb d_Ar_combine_58 (lv_at hl 4 rfl) ?_
    refine lv_lconst (v := (0 : Int64)) hx hb d_Ar_combine_60 (by decide) ?_
    refine lv_iload hx hb d_Ar_combine_61 (lv_at hl 5 rfl) ?_
    obtain ⟨r3, er3, h⟩ := ok_b h
    refine z_vl (rest := []) C0 hw (c_Ar_sum x2 x4 (0 : Int64) x6 q r3 er3) mw_Ar_sum ml_Ar_44 9 rfl ⟨Nat.le_of_ble_eq_true rfl, Nat.le_of_ble_eq_true rfl⟩ ⟨Nat.le_refl 0, Nat.le_refl 0⟩ rfl hl.1 rfl (Nat.le_of_ble_eq_true rfl) d_Ar_combine_63 (fun H locs hw => ?_)
    have ho := Option.some.inj h
    subst ho
    exact z_rtl C0 hw d_Ar_combine_66
  have h := ok_f h c2
  by_cases c4 : x1 = (1 : Int32)
  · have h := ok_t h c4
    refine lv_tableIn (off := 54) (tgt := 67) hx hb d_Ar_combine_13 (by rw [c4]; decide) (by rw [c4]; decide) (by rw [c4]; rfl) (by decide) ?_
    refine lv_aload_n hx hb d_Ar_combine_67 rfl (lv_at hl 1 rfl) ?_
    refine lv_lload_n hx hb d_Ar_combine_68 rfl (lv_at hl 3 rfl) ?_
    refine lv_lload hx hb d_Ar_combine_69 (lv_at hl 4 rfl) ?_
    refine lv_lor hx hb d_Ar_combine_71 ?_
    refine lv_iload hx hb d_Ar_combine_72 (lv_at hl 5 rfl) ?_
    obtain ⟨r5, er5, h⟩ := ok_b h
    refine z_vl (rest := []) C0 hw (c_Ar_logic (x2 ||| x4) x6 q r5 er5) mw_Ar_logic ml_Ar_50 9 rfl ⟨Nat.le_of_ble_eq_true rfl, Nat.le_of_ble_eq_true rfl⟩ ⟨Nat.le_refl 0, Nat.le_refl 0⟩ rfl hl.1 rfl (Nat.le_of_ble_eq_true rfl) d_Ar_combine_74 (fun H locs hw => ?_)
    have ho := Option.some.inj h
    subst ho
    exact z_rtl C0 hw d_Ar_combine_77
  have h := ok_f h c4
  by_cases c6 : x1 = (2 : Int32)
  · have h := ok_t h c6
    refine lv_tableIn (off := 65) (tgt := 78) hx hb d_Ar_combine_13 (by rw [c6]; decide) (by rw [c6]; decide) (by rw [c6]; rfl) (by decide) ?_
    refine lv_aload_n hx hb d_Ar_combine_78 rfl (lv_at hl 1 rfl) ?_
    refine lv_lload_n hx hb d_Ar_combine_79 rfl (lv_at hl 3 rfl) ?_
    refine lv_lload hx hb d_Ar_combine_80 (lv_at hl 4 rfl) ?_
    refine lv_lload hx hb d_Ar_combine_82 (lv_at hl 0 rfl) ?_
    refine lv_iload hx hb d_Ar_combine_84 (lv_at hl 5 rfl) ?_
    obtain ⟨r7, er7, h⟩ := ok_b h
    refine z_vl (rest := []) C0 hw (c_Ar_sum x2 x4 n1 x6 q r7 er7) mw_Ar_sum ml_Ar_44 9 rfl ⟨Nat.le_of_ble_eq_true rfl, Nat.le_of_ble_eq_true rfl⟩ ⟨Nat.le_refl 0, Nat.le_refl 0⟩ rfl hl.1 rfl (Nat.le_of_ble_eq_true rfl) d_Ar_combine_86 (fun H locs hw => ?_)
    have ho := Option.some.inj h
    subst ho
    exact z_rtl C0 hw d_Ar_combine_89
  have h := ok_f h c6
  by_cases c8 : x1 = (3 : Int32)
  · have h := ok_t h c8
    refine lv_tableIn (off := 77) (tgt := 90) hx hb d_Ar_combine_13 (by rw [c8]; decide) (by rw [c8]; decide) (by rw [c8]; rfl) (by decide) ?_
    refine lv_aload_n hx hb d_Ar_combine_90 rfl (lv_at hl 1 rfl) ?_
    refine lv_lload_n hx hb d_Ar_combine_91 rfl (lv_at hl 3 rfl) ?_
    refine lv_lload hx hb d_Ar_combine_92 (lv_at hl 4 rfl) ?_
    refine lv_lload hx hb d_Ar_combine_94 (lv_at hl 0 rfl) ?_
    refine lv_iload hx hb d_Ar_combine_96 (lv_at hl 5 rfl) ?_
    obtain ⟨r9, er9, h⟩ := ok_b h
    refine z_vl (rest := []) C0 hw (c_Ar_difference x2 x4 n1 x6 q r9 er9) mw_Ar_difference ml_Ar_47 9 rfl ⟨Nat.le_of_ble_eq_true rfl, Nat.le_of_ble_eq_true rfl⟩ ⟨Nat.le_refl 0, Nat.le_refl 0⟩ rfl hl.1 rfl (Nat.le_of_ble_eq_true rfl) d_Ar_combine_98 (fun H locs hw => ?_)
    have ho := Option.some.inj h
    subst ho
    exact z_rtl C0 hw d_Ar_combine_101
  have h := ok_f h c8
  by_cases c10 : x1 = (4 : Int32)
  · have h := ok_t h c10
    refine lv_tableIn (off := 89) (tgt := 102) hx hb d_Ar_combine_13 (by rw [c10]; decide) (by rw [c10]; decide) (by rw [c10]; rfl) (by decide) ?_
    refine lv_aload_n hx hb d_Ar_combine_102 rfl (lv_at hl 1 rfl) ?_
    refine lv_lload_n hx hb d_Ar_combine_103 rfl (lv_at hl 3 rfl) ?_
    refine lv_lload hx hb d_Ar_combine_104 (lv_at hl 4 rfl) ?_
    refine lv_land hx hb d_Ar_combine_106 ?_
    refine lv_iload hx hb d_Ar_combine_107 (lv_at hl 5 rfl) ?_
    obtain ⟨r11, er11, h⟩ := ok_b h
    refine z_vl (rest := []) C0 hw (c_Ar_logic (x2 &&& x4) x6 q r11 er11) mw_Ar_logic ml_Ar_50 9 rfl ⟨Nat.le_of_ble_eq_true rfl, Nat.le_of_ble_eq_true rfl⟩ ⟨Nat.le_refl 0, Nat.le_refl 0⟩ rfl hl.1 rfl (Nat.le_of_ble_eq_true rfl) d_Ar_combine_109 (fun H locs hw => ?_)
    have ho := Option.some.inj h
    subst ho
    exact z_rtl C0 hw d_Ar_combine_112
  have h := ok_f h c10
  by_cases c12 : x1 = (5 : Int32)
  · have h := ok_t h c12
    refine lv_tableIn (off := 111) (tgt := 124) hx hb d_Ar_combine_13 (by rw [c12]; decide) (by rw [c12]; decide) (by rw [c12]; rfl) (by decide) ?_
    exact w_Ar_combine_124 o C0 q x2 x4 x6 h H locs ls hw (lv_sub hl [1, 3, 4, 5] rfl)
  have h := ok_f h c12
  by_cases c14 : x1 = (6 : Int32)
  · have h := ok_t h c14
    refine lv_tableIn (off := 100) (tgt := 113) hx hb d_Ar_combine_13 (by rw [c14]; decide) (by rw [c14]; decide) (by rw [c14]; rfl) (by decide) ?_
    refine lv_aload_n hx hb d_Ar_combine_113 rfl (lv_at hl 1 rfl) ?_
    refine lv_lload_n hx hb d_Ar_combine_114 rfl (lv_at hl 3 rfl) ?_
    refine lv_lload hx hb d_Ar_combine_115 (lv_at hl 4 rfl) ?_
    refine lv_lxor hx hb d_Ar_combine_117 ?_
    refine lv_iload hx hb d_Ar_combine_118 (lv_at hl 5 rfl) ?_
    obtain ⟨r15, er15, h⟩ := ok_b h
    refine z_vl (rest := []) C0 hw (c_Ar_logic (x2 ^^^ x4) x6 q r15 er15) mw_Ar_logic ml_Ar_50 9 rfl ⟨Nat.le_of_ble_eq_true rfl, Nat.le_of_ble_eq_true rfl⟩ ⟨Nat.le_refl 0, Nat.le_refl 0⟩ rfl hl.1 rfl (Nat.le_of_ble_eq_true rfl) d_Ar_combine_120 (fun H locs hw => ?_)
    have ho := Option.some.inj h
    subst ho
    exact z_rtl C0 hw d_Ar_combine_123
  have h := ok_f h c14
  refine lv_tableOut (tgt := 124) hx hb d_Ar_combine_13 (by have zc2 := lv_neT c2 (a := 0) rfl; have zc4 := lv_neT c4 (a := 1) rfl; have zc6 := lv_neT c6 (a := 2) rfl; have zc8 := lv_neT c8 (a := 3) rfl; have zc10 := lv_neT c10 (a := 4) rfl; have zc12 := lv_neT c12 (a := 5) rfl; have zc14 := lv_neT c14 (a := 6) rfl; omega) (by decide) ?_
  exact w_Ar_combine_124 o C0 q x2 x4 x6 h H locs ls hw (lv_sub hl [1, 3, 4, 5] rfl)
def k_On_combine_154 (q : z_Sg) : Option z_Sg :=
  some q
def k_On_combine_84 (x1 : Int32) (x2 : Int32) (x3 : Int32) (x4 : Int64) (t0 : Int64) (q : z_Sg) : Option z_Sg :=
  (f_Ar_combine x1 x4 t0 x3 q).bind (fun r7 => if x1 = (7 : Int32) then (some r7.2) else (if x2 = (1 : Int32) then ((f_Op_putG r7.1 x3 r7.2).bind (fun r13 => k_On_combine_154 r13)) else (if x2 = (2 : Int32) then ((f_Op_putPart (0 : Int32) r7.1 x3 r7.2).bind (fun r12 => k_On_combine_154 r12)) else ((f_Op_put r7.1 r7.2).bind (fun r11 => k_On_combine_154 r11)))))
def k_On_combine_45 (x1 : Int32) (x2 : Int32) (x3 : Int32) (t0 : Int64) (q : z_Sg) : Option z_Sg :=
  if x2 = 0 then ((f_Op_g x3 q).bind (fun r15 => k_On_combine_84 x1 x2 x3 t0 r15 q)) else (if x2 = (1 : Int32) then ((f_Op_value q).bind (fun r14 => k_On_combine_84 x1 x2 x3 t0 r14 q)) else (k_On_combine_84 x1 x2 x3 t0 (z_gL q 9) q))
def f_On_combine (x1 : Int32) (x2 : Int32) (q : z_Sg) : Option z_Sg :=
  (f_On_sizeByOpcode q).bind (fun r1 => if x2 = (1 : Int32) then ((f_Op_g r1 q).bind (fun r17 => k_On_combine_45 x1 x2 r1 r17 q)) else (if x2 = (2 : Int32) then ((f_Op_part (0 : Int32) r1 q).bind (fun r16 => k_On_combine_45 x1 x2 r1 r16 q)) else ((f_Op_value q).bind (fun r4 => k_On_combine_45 x1 x2 r1 r4 q))))
set_option maxHeartbeats 4000000 in
set_option maxRecDepth 100000 in
theorem w_On_combine_154 {p : Program} {l : Launch} {e : Env} {s : State} {m : MethodId} {args : Array Value} {below : List Frame} {meth : Method} {c : Code} {D : va_G} {A : Nat → Prop} {ad : Nat → Nat} {ca : Nat → ClassId} (o : z_Sg) (C0 : z_cx z_ROn b_On_combine 10 none D (z_Kt ca) A p s m args meth c) (q : z_Sg) (h : k_On_combine_154 q = some o) : ∀ (H : Heap) (locs : List Loc) (ls : Array Slot), z_wd D (z_K ad ca q) A s H locs → lv_has ls 10 [] → W p l e (z_rm 4 114) s m args below meth c H locs 0 0 (z_qv below D (z_Kt ca) (z_K ad ca o) A s args) (F0 m 154 ls []) := by
  obtain ⟨hx, hb, hr, hlk, hml, hown, hts, hK, hA⟩ := id C0
  intro H locs ls hw hl
  have ho := Option.some.inj h
  subst ho
  exact z_rtv C0 hw d_On_combine_154
set_option maxHeartbeats 4000000 in
set_option maxRecDepth 100000 in
theorem w_On_combine_84 {p : Program} {l : Launch} {e : Env} {s : State} {m : MethodId} {args : Array Value} {below : List Frame} {meth : Method} {c : Code} {D : va_G} {A : Nat → Prop} {ad : Nat → Nat} {ca : Nat → ClassId} (o : z_Sg) (C0 : z_cx z_ROn b_On_combine 10 none D (z_Kt ca) A p s m args meth c) (q : z_Sg) (x1 : Int32) (x2 : Int32) (x3 : Int32) (x4 : Int64) (t0 : Int64) (h : k_On_combine_84 x1 x2 x3 x4 t0 q = some o) : ∀ (H : Heap) (locs : List Loc) (ls : Array Slot), z_wd D (z_K ad ca q) A s H locs → lv_has ls 10 [(0, .ref (ad 19)), (1, .int x1), (2, .int x2), (3, .int x3), (4, .long x4)] → W p l e (z_rm 4 114) s m args below meth c H locs 0 0 (z_qv below D (z_Kt ca) (z_K ad ca o) A s args) (F0 m 84 ls [.long t0]) := by
  obtain ⟨hx, hb, hr, hlk, hml, hown, hts, hK, hA⟩ := id C0
  intro H locs ls hw hl
  refine lv_lstore (lv' := [(6, .long t0), (0, .ref (ad 19)), (1, .int x1), (2, .int x2), (3, .int x3), (4, .long x4)]) hx hb d_On_combine_84 hl (by decide) rfl (fun ls hl => ?_)
  refine lv_aload_n hx hb d_On_combine_86 rfl (lv_at hl 1 rfl) ?_
  refine gfK_19_arithmetic C0 hw fl_On_23 d_On_combine_87 ?_
  refine lv_iload_n hx hb d_On_combine_90 rfl (lv_at hl 2 rfl) ?_
  refine lv_lload hx hb d_On_combine_91 (lv_at hl 5 rfl) ?_
  refine lv_lload hx hb d_On_combine_93 (lv_at hl 0 rfl) ?_
  refine lv_iload_n hx hb d_On_combine_95 rfl (lv_at hl 4 rfl) ?_
  obtain ⟨r7, er7, h⟩ := ok_b h
  refine z_vl (rest := []) C0 hw (c_Ar_combine x1 x4 t0 x3 q r7 er7) mw_Ar_combine ml_On_86 9 rfl ⟨Nat.le_of_ble_eq_true rfl, Nat.le_of_ble_eq_true rfl⟩ ⟨Nat.le_refl 0, Nat.le_refl 0⟩ rfl hl.1 rfl (Nat.le_of_ble_eq_true rfl) d_On_combine_96 (fun H locs hw => ?_)
  refine lv_lstore (lv' := [(8, .long r7.1), (6, .long t0), (0, .ref (ad 19)), (1, .int x1), (2, .int x2), (3, .int x3), (4, .long x4)]) hx hb d_On_combine_99 hl (by decide) rfl (fun ls hl => ?_)
  refine lv_iload_n hx hb d_On_combine_101 rfl (lv_at hl 3 rfl) ?_
  refine lv_bipush (v := (7 : Int32)) hx hb d_On_combine_102 (by decide) ?_
  refine lv_icmp_ne (tgt := 108) hx hb d_On_combine_104 (by decide) (fun c8 => ?_) (fun c8 => ?_)
  · have h := ok_f h c8
    refine lv_iload_n hx hb d_On_combine_108 rfl (lv_at hl 4 rfl) ?_
    refine lv_iconst (v := (1 : Int32)) hx hb d_On_combine_109 (by decide) ?_
    refine lv_icmp_ne (tgt := 126) hx hb d_On_combine_110 (by decide) (fun c9 => ?_) (fun c9 => ?_)
    · have h := ok_f h c9
      refine lv_iload_n hx hb d_On_combine_126 rfl (lv_at hl 4 rfl) ?_
      refine lv_iconst (v := (2 : Int32)) hx hb d_On_combine_127 (by decide) ?_
      refine lv_icmp_ne (tgt := 145) hx hb d_On_combine_128 (by decide) (fun c10 => ?_) (fun c10 => ?_)
      · have h := ok_f h c10
        refine lv_aload_n hx hb d_On_combine_145 rfl (lv_at hl 2 rfl) ?_
        refine gfK_19_operands C0 hw fl_On_19 d_On_combine_146 ?_
        refine lv_lload hx hb d_On_combine_149 (lv_at hl 0 rfl) ?_
        obtain ⟨r11, er11, h⟩ := ok_b h
        refine z_vv (rest := []) C0 hw (c_Op_put r7.1 r7.2 r11 er11) mw_Op_put ml_On_95 6 rfl ⟨Nat.le_of_ble_eq_true rfl, Nat.le_of_ble_eq_true rfl⟩ ⟨Nat.le_refl 0, Nat.le_refl 0⟩ rfl hl.1 rfl (Nat.le_of_ble_eq_true rfl) d_On_combine_151 (fun H locs hw => ?_)
        exact w_On_combine_154 o C0 r11 h H locs ls hw (lv_sub hl [] rfl)
      · have h := ok_t h c10
        refine lv_aload_n hx hb d_On_combine_131 rfl (lv_at hl 2 rfl) ?_
        refine gfK_19_operands C0 hw fl_On_19 d_On_combine_132 ?_
        refine lv_iconst (v := (0 : Int32)) hx hb d_On_combine_135 (by decide) ?_
        refine lv_lload hx hb d_On_combine_136 (lv_at hl 0 rfl) ?_
        refine lv_iload_n hx hb d_On_combine_138 rfl (lv_at hl 5 rfl) ?_
        obtain ⟨r12, er12, h⟩ := ok_b h
        refine z_vv (rest := []) C0 hw (c_Op_putPart (0 : Int32) r7.1 x3 r7.2 r12 er12) mw_Op_putPart ml_On_48 6 rfl ⟨Nat.le_of_ble_eq_true rfl, Nat.le_of_ble_eq_true rfl⟩ ⟨Nat.le_refl 0, Nat.le_refl 0⟩ rfl hl.1 rfl (Nat.le_of_ble_eq_true rfl) d_On_combine_139 (fun H locs hw => ?_)
        refine lv_goto (tgt := 154) hx hb d_On_combine_142 (by decide) ?_
        exact w_On_combine_154 o C0 r12 h H locs ls hw (lv_sub hl [] rfl)
    · have h := ok_t h c9
      refine lv_aload_n hx hb d_On_combine_113 rfl (lv_at hl 2 rfl) ?_
      refine gfK_19_operands C0 hw fl_On_19 d_On_combine_114 ?_
      refine lv_lload hx hb d_On_combine_117 (lv_at hl 0 rfl) ?_
      refine lv_iload_n hx hb d_On_combine_119 rfl (lv_at hl 5 rfl) ?_
      obtain ⟨r13, er13, h⟩ := ok_b h
      refine z_vv (rest := []) C0 hw (c_Op_putG r7.1 x3 r7.2 r13 er13) mw_Op_putG ml_On_91 6 rfl ⟨Nat.le_of_ble_eq_true rfl, Nat.le_of_ble_eq_true rfl⟩ ⟨Nat.le_refl 0, Nat.le_refl 0⟩ rfl hl.1 rfl (Nat.le_of_ble_eq_true rfl) d_On_combine_120 (fun H locs hw => ?_)
      refine lv_goto (tgt := 154) hx hb d_On_combine_123 (by decide) ?_
      exact w_On_combine_154 o C0 r13 h H locs ls hw (lv_sub hl [] rfl)
  · have h := ok_t h c8
    have ho := Option.some.inj h
    subst ho
    exact z_rtv C0 hw d_On_combine_107
set_option maxHeartbeats 4000000 in
set_option maxRecDepth 100000 in
theorem w_On_combine_45 {p : Program} {l : Launch} {e : Env} {s : State} {m : MethodId} {args : Array Value} {below : List Frame} {meth : Method} {c : Code} {D : va_G} {A : Nat → Prop} {ad : Nat → Nat} {ca : Nat → ClassId} (o : z_Sg) (C0 : z_cx z_ROn b_On_combine 10 none D (z_Kt ca) A p s m args meth c) (q : z_Sg) (x1 : Int32) (x2 : Int32) (x3 : Int32) (t0 : Int64) (h : k_On_combine_45 x1 x2 x3 t0 q = some o) : ∀ (H : Heap) (locs : List Loc) (ls : Array Slot), z_wd D (z_K ad ca q) A s H locs → lv_has ls 10 [(0, .ref (ad 19)), (1, .int x1), (2, .int x2), (3, .int x3)] → W p l e (z_rm 4 114) s m args below meth c H locs 0 0 (z_qv below D (z_Kt ca) (z_K ad ca o) A s args) (F0 m 45 ls [.long t0]) := by
  obtain ⟨hx, hb, hr, hlk, hml, hown, hts, hK, hA⟩ := id C0
  intro H locs ls hw hl
  refine lv_lstore (lv' := [(4, .long t0), (0, .ref (ad 19)), (1, .int x1), (2, .int x2), (3, .int x3)]) hx hb d_On_combine_45 hl (by decide) rfl (fun ls hl => ?_)
  refine lv_iload_n hx hb d_On_combine_47 rfl (lv_at hl 3 rfl) ?_
  refine lv_if_ne (tgt := 62) hx hb d_On_combine_48 (by decide) (fun c5 => ?_) (fun c5 => ?_)
  · have h := ok_f h c5
    refine lv_iload_n hx hb d_On_combine_62 rfl (lv_at hl 3 rfl) ?_
    refine lv_iconst (v := (1 : Int32)) hx hb d_On_combine_63 (by decide) ?_
    refine lv_icmp_ne (tgt := 77) hx hb d_On_combine_64 (by decide) (fun c6 => ?_) (fun c6 => ?_)
    · have h := ok_f h c6
      refine lv_aload_n hx hb d_On_combine_77 rfl (lv_at hl 1 rfl) ?_
      refine gfK_19_code C0 hw fl_On_15 d_On_combine_78 ?_
      refine gfK_5_number C0 hw fl_On_44 d_On_combine_81 ?_
      exact w_On_combine_84 o C0 q x1 x2 x3 t0 (z_gL q 9) h H locs ls hw (lv_sub hl [1, 2, 3, 4, 0] rfl)
    · have h := ok_t h c6
      refine lv_aload_n hx hb d_On_combine_67 rfl (lv_at hl 1 rfl) ?_
      refine gfK_19_operands C0 hw fl_On_19 d_On_combine_68 ?_
      obtain ⟨r14, er14, h⟩ := ok_b h
      refine z_vl (rest := []) C0 hw (c_Op_value q r14 er14) mw_Op_value ml_On_82 6 rfl ⟨Nat.le_of_ble_eq_true rfl, Nat.le_of_ble_eq_true rfl⟩ ⟨Nat.le_refl 0, Nat.le_refl 0⟩ rfl hl.1 rfl (Nat.le_of_ble_eq_true rfl) d_On_combine_71 (fun H locs hw => ?_)
      refine lv_goto (tgt := 84) hx hb d_On_combine_74 (by decide) ?_
      exact w_On_combine_84 o C0 q x1 x2 x3 t0 r14 h H locs ls hw (lv_sub hl [1, 2, 3, 4, 0] rfl)
  · have h := ok_t h c5
    refine lv_aload_n hx hb d_On_combine_51 rfl (lv_at hl 1 rfl) ?_
    refine gfK_19_operands C0 hw fl_On_19 d_On_combine_52 ?_
    refine lv_iload_n hx hb d_On_combine_55 rfl (lv_at hl 4 rfl) ?_
    obtain ⟨r15, er15, h⟩ := ok_b h
    refine z_vl (rest := []) C0 hw (c_Op_g x3 q r15 er15) mw_Op_g ml_On_74 6 rfl ⟨Nat.le_of_ble_eq_true rfl, Nat.le_of_ble_eq_true rfl⟩ ⟨Nat.le_refl 0, Nat.le_refl 0⟩ rfl hl.1 rfl (Nat.le_of_ble_eq_true rfl) d_On_combine_56 (fun H locs hw => ?_)
    refine lv_goto (tgt := 84) hx hb d_On_combine_59 (by decide) ?_
    exact w_On_combine_84 o C0 q x1 x2 x3 t0 r15 h H locs ls hw (lv_sub hl [1, 2, 3, 4, 0] rfl)
set_option maxHeartbeats 4000000 in
set_option maxRecDepth 100000 in
theorem c_On_combine {l : Launch} {D : va_G} {ad : Nat → Nat} {ca : Nat → ClassId} (x1 : Int32) (x2 : Int32) (q : z_Sg) (o : z_Sg) (h : f_On_combine x1 x2 q = some o) : z_cv l y_On_combine b_On_combine 10 none 4 114 D (z_Kt ca) (z_K ad ca q) (z_K ad ca o) [.ref (ad 19), .int x1, .int x2] := by
  refine z_cv_of (own := z_ROn) (by decide) rfl ?_
  intro p e s m below meth c A C0 hw
  obtain ⟨hx, hb, hr, hlk, hml, hown, hts, hK, hA⟩ := id C0
  generalize hH : s.heap = H at hw ⊢
  generalize hlo : ([] : List Loc) = locs at hw ⊢
  refine z_entry (lv := [(0, .ref (ad 19)), (1, .int x1), (2, .int x2)]) (Nat.le_of_ble_eq_true rfl) rfl (fun ls hl => ?_)
  unfold f_On_combine at h
  refine lv_aload_n hx hb d_On_combine_0 rfl (lv_at hl 0 rfl) ?_
  obtain ⟨r1, er1, h⟩ := ok_b h
  refine z_vi (rest := []) C0 hw (c_On_sizeByOpcode q r1 er1) mw_On_sizeByOpcode ml_On_67 19 rfl ⟨Nat.le_of_ble_eq_true rfl, Nat.le_of_ble_eq_true rfl⟩ ⟨Nat.le_refl 0, Nat.le_refl 0⟩ rfl hl.1 rfl (Nat.le_of_ble_eq_true rfl) d_On_combine_1 (fun H locs hw => ?_)
  refine lv_istore_n (lv' := [(3, .int r1), (0, .ref (ad 19)), (1, .int x1), (2, .int x2)]) hx hb d_On_combine_4 rfl hl (by decide) rfl (fun ls hl => ?_)
  refine lv_iload_n hx hb d_On_combine_5 rfl (lv_at hl 3 rfl) ?_
  refine lv_iconst (v := (1 : Int32)) hx hb d_On_combine_6 (by decide) ?_
  refine lv_icmp_ne (tgt := 21) hx hb d_On_combine_7 (by decide) (fun c2 => ?_) (fun c2 => ?_)
  · have h := ok_f h c2
    refine lv_iload_n hx hb d_On_combine_21 rfl (lv_at hl 3 rfl) ?_
    refine lv_iconst (v := (2 : Int32)) hx hb d_On_combine_22 (by decide) ?_
    refine lv_icmp_ne (tgt := 38) hx hb d_On_combine_23 (by decide) (fun c3 => ?_) (fun c3 => ?_)
    · have h := ok_f h c3
      refine lv_aload_n hx hb d_On_combine_38 rfl (lv_at hl 1 rfl) ?_
      refine gfK_19_operands C0 hw fl_On_19 d_On_combine_39 ?_
      obtain ⟨r4, er4, h⟩ := ok_b h
      refine z_vl (rest := []) C0 hw (c_Op_value q r4 er4) mw_Op_value ml_On_82 6 rfl ⟨Nat.le_of_ble_eq_true rfl, Nat.le_of_ble_eq_true rfl⟩ ⟨Nat.le_refl 0, Nat.le_refl 0⟩ rfl hl.1 rfl (Nat.le_of_ble_eq_true rfl) d_On_combine_42 (fun H locs hw => ?_)
      exact w_On_combine_45 o C0 q x1 x2 r1 r4 h H locs ls hw (lv_sub hl [1, 2, 3, 0] rfl)
    · have h := ok_t h c3
      refine lv_aload_n hx hb d_On_combine_26 rfl (lv_at hl 1 rfl) ?_
      refine gfK_19_operands C0 hw fl_On_19 d_On_combine_27 ?_
      refine lv_iconst (v := (0 : Int32)) hx hb d_On_combine_30 (by decide) ?_
      refine lv_iload_n hx hb d_On_combine_31 rfl (lv_at hl 0 rfl) ?_
      obtain ⟨r16, er16, h⟩ := ok_b h
      refine z_vl (rest := []) C0 hw (c_Op_part (0 : Int32) r1 q r16 er16) mw_Op_part ml_On_78 6 rfl ⟨Nat.le_of_ble_eq_true rfl, Nat.le_of_ble_eq_true rfl⟩ ⟨Nat.le_refl 0, Nat.le_refl 0⟩ rfl hl.1 rfl (Nat.le_of_ble_eq_true rfl) d_On_combine_32 (fun H locs hw => ?_)
      refine lv_goto (tgt := 45) hx hb d_On_combine_35 (by decide) ?_
      exact w_On_combine_45 o C0 q x1 x2 r1 r16 h H locs ls hw (lv_sub hl [1, 2, 3, 0] rfl)
  · have h := ok_t h c2
    refine lv_aload_n hx hb d_On_combine_10 rfl (lv_at hl 1 rfl) ?_
    refine gfK_19_operands C0 hw fl_On_19 d_On_combine_11 ?_
    refine lv_iload_n hx hb d_On_combine_14 rfl (lv_at hl 0 rfl) ?_
    obtain ⟨r17, er17, h⟩ := ok_b h
    refine z_vl (rest := []) C0 hw (c_Op_g r1 q r17 er17) mw_Op_g ml_On_74 6 rfl ⟨Nat.le_of_ble_eq_true rfl, Nat.le_of_ble_eq_true rfl⟩ ⟨Nat.le_refl 0, Nat.le_refl 0⟩ rfl hl.1 rfl (Nat.le_of_ble_eq_true rfl) d_On_combine_15 (fun H locs hw => ?_)
    refine lv_goto (tgt := 45) hx hb d_On_combine_18 (by decide) ?_
    exact w_On_combine_45 o C0 q x1 x2 r1 r17 h H locs ls hw (lv_sub hl [1, 2, 3, 0] rfl)
