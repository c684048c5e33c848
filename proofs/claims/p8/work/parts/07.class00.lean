def k_Pa_putByte_14 (q : z_Sg) : Option z_Sg :=
  some q
def f_Pa_putByte (x1 : Int64) (x3 : Int64) (q : z_Sg) : Option z_Sg :=
  if x1 < (0 : Int64) then (k_Pa_putByte_14 q) else (if x1 < (32768 : Int64) then (z_nm (((z_lushr x1 (3 : Int32)).toInt32)) (fun n3 => z_nm (((8 : Int32) * ((x1 &&& (7 : Int64)).toInt32))) (fun n4 => if z_bad n3 4096 then none else (if z_bad n3 4096 then none else (z_nm (z_sM q 1 n3.toNatClampNeg (((z_gM q 1 n3.toNatClampNeg) &&& ((z_lshl (255 : Int64) n4) ^^^ (-1 : Int64))) ||| (z_lshl (x3 &&& (255 : Int64)) n4))) (fun q7 => some q7)))))) else (k_Pa_putByte_14 q))
set_option maxHeartbeats 4000000 in
set_option maxRecDepth 100000 in
theorem w_Pa_putByte_14 {p : Program} {l : Launch} {e : Env} {s : State} {m : MethodId} {args : Array Value} {below : List Frame} {meth : Method} {c : Code} {D : va_G} {A : Nat → Prop} {ad : Nat → Nat} {ca : Nat → ClassId} (o : z_Sg) (C0 : z_cx z_RPa b_Pa_putByte 7 none D (z_Kt ca) A p s m args meth c) (q : z_Sg) (h : k_Pa_putByte_14 q = some o) : ∀ (H : Heap) (locs : List Loc) (ls : Array Slot), z_wd D (z_K ad ca q) A s H locs → lv_has ls 7 [] → W p l e (z_rm 0 0) s m args below meth c H locs 0 0 (z_qv below D (z_Kt ca) (z_K ad ca o) A s args) (F0 m 14 ls []) := by
  obtain ⟨hx, hb, hr, hlk, hml, hown, hts, hK, hA⟩ := id C0
  intro H locs ls hw hl
  have ho := Option.some.inj h
  subst ho
  exact z_rtv C0 hw d_Pa_putByte_14
set_option maxHeartbeats 4000000 in
set_option maxRecDepth 100000 in
theorem c_Pa_putByte {l : Launch} {D : va_G} {ad : Nat → Nat} {ca : Nat → ClassId} (x1 : Int64) (x3 : Int64) (q : z_Sg) (o : z_Sg) (h : f_Pa_putByte x1 x3 q = some o) : z_cv l y_Pa_putByte b_Pa_putByte 7 none 0 0 D (z_Kt ca) (z_K ad ca q) (z_K ad ca o) [.ref (ad 3), .long x1, .long x3] := by
  refine z_cv_of (own := z_RPa) (by decide) rfl ?_
  intro p e s m below meth c A C0 hw
  obtain ⟨hx, hb, hr, hlk, hml, hown, hts, hK, hA⟩ := id C0
  generalize hH : s.heap = H at hw ⊢
  generalize hlo : ([] : List Loc) = locs at hw ⊢
  refine z_entry (lv := [(0, .ref (ad 3)), (1, .long x1), (3, .long x3)]) (Nat.le_of_ble_eq_true rfl) rfl (fun ls hl => ?_)
  unfold f_Pa_putByte at h
  refine lv_lload_n hx hb d_Pa_putByte_0 rfl (lv_at hl 1 rfl) ?_
  refine lv_lconst (v := (0 : Int64)) hx hb d_Pa_putByte_1 (by decide) ?_
  refine W.lcmp hx hb d_Pa_putByte_2 ?_
  refine lv_if_lt (tgt := 14) hx hb d_Pa_putByte_3 (by decide) (fun c1 => ?_) (fun c1 => ?_)
  · have h := ok_t h ((lg_cmp_lt _ _).mp c1)
    exact w_Pa_putByte_14 o C0 q h H locs ls hw (lv_sub hl [] rfl)
  · have h := ok_f h (fun z => c1 ((lg_cmp_lt _ _).mpr z))
    refine lv_lload_n hx hb d_Pa_putByte_6 rfl (lv_at hl 1 rfl) ?_
    refine lv_ldc2 (own := z_RPa) hx hb hown (hts _ kl_Pa_19) d_Pa_putByte_7 ?_
    refine W.lcmp hx hb d_Pa_putByte_10 ?_
    refine lv_if_lt (tgt := 15) hx hb d_Pa_putByte_11 (by decide) (fun c2 => ?_) (fun c2 => ?_)
    · have h := ok_t h ((lg_cmp_lt _ _).mp c2)
      refine lv_lload_n hx hb d_Pa_putByte_15 rfl (lv_at hl 1 rfl) ?_
      refine lv_iconst (v := (3 : Int32)) hx hb d_Pa_putByte_16 (by decide) ?_
      refine lv_lushr (v := (z_lushr x1 (3 : Int32))) hx hb d_Pa_putByte_17 rfl ?_
      refine lv_l2i hx hb d_Pa_putByte_18 rfl ?_
      obtain ⟨n3, en3, h⟩ := ok_n h
      refine z_ti en3 ?_
      refine lv_istore (lv' := [(5, .int n3), (0, .ref (ad 3)), (1, .long x1), (3, .long x3)]) hx hb d_Pa_putByte_19 hl (by decide) rfl (fun ls hl => ?_)
      refine lv_bipush (v := (8 : Int32)) hx hb d_Pa_putByte_21 (by decide) ?_
      refine lv_lload_n hx hb d_Pa_putByte_23 rfl (lv_at hl 2 rfl) ?_
      refine lv_ldc2 (own := z_RPa) hx hb hown (hts _ kl_Pa_21) d_Pa_putByte_24 ?_
      refine lv_land hx hb d_Pa_putByte_27 ?_
      refine lv_l2i hx hb d_Pa_putByte_28 rfl ?_
      refine lv_imul hx hb d_Pa_putByte_29 ?_
      obtain ⟨n4, en4, h⟩ := ok_n h
      refine z_ti en4 ?_
      refine lv_istore (lv' := [(6, .int n4), (5, .int n3), (0, .ref (ad 3)), (1, .long x1), (3, .long x3)]) hx hb d_Pa_putByte_30 hl (by decide) rfl (fun ls hl => ?_)
      refine lv_aload_n hx hb d_Pa_putByte_32 rfl (lv_at hl 2 rfl) ?_
      refine gfK_3_words C0 hw fl_Pa_11 d_Pa_putByte_33 ?_
      refine lv_iload hx hb d_Pa_putByte_36 (lv_at hl 1 rfl) ?_
      refine lv_aload_n hx hb d_Pa_putByte_38 rfl (lv_at hl 2 rfl) ?_
      refine gfK_3_words C0 hw fl_Pa_11 d_Pa_putByte_39 ?_
      refine lv_iload hx hb d_Pa_putByte_42 (lv_at hl 1 rfl) ?_
      obtain ⟨b5, h⟩ := ok_g h
      refine alK_4 C0 hw b5 d_Pa_putByte_44 ?_
      refine lv_ldc2 (own := z_RPa) hx hb hown (hts _ kl_Pa_23) d_Pa_putByte_45 ?_
      refine lv_iload hx hb d_Pa_putByte_48 (lv_at hl 0 rfl) ?_
      refine lv_lshl (v := (z_lshl (255 : Int64) n4)) hx hb d_Pa_putByte_50 rfl ?_
      refine lv_ldc2 (own := z_RPa) hx hb hown (hts _ kl_Pa_25) d_Pa_putByte_51 ?_
      refine lv_lxor hx hb d_Pa_putByte_54 ?_
      refine lv_land hx hb d_Pa_putByte_55 ?_
      refine lv_lload_n hx hb d_Pa_putByte_56 rfl (lv_at hl 4 rfl) ?_
      refine lv_ldc2 (own := z_RPa) hx hb hown (hts _ kl_Pa_23) d_Pa_putByte_57 ?_
      refine lv_land hx hb d_Pa_putByte_60 ?_
      refine lv_iload hx hb d_Pa_putByte_61 (lv_at hl 0 rfl) ?_
      refine lv_lshl (v := (z_lshl (x3 &&& (255 : Int64)) n4)) hx hb d_Pa_putByte_63 rfl ?_
      refine lv_lor hx hb d_Pa_putByte_64 ?_
      obtain ⟨b6, h⟩ := ok_g h
      refine asK_4 C0 hw b6 d_Pa_putByte_65 (fun H locs hw => ?_)
      obtain ⟨q7, eq7, h⟩ := ok_n h
      rw [← eq7] at hw
      have ho := Option.some.inj h
      subst ho
      exact z_rtv C0 hw d_Pa_putByte_66
    · have h := ok_f h (fun z => c2 ((lg_cmp_lt _ _).mpr z))
      exact w_Pa_putByte_14 o C0 q h H locs ls hw (lv_sub hl [] rfl)
def k_Co_store_11 (q : z_Sg) : Option (Int32 × z_Sg) :=
  some ((0 : Int32), q)
def kb_Co_store_16 (ih16 : Int32 × Int32 × Int32 × Int32 × z_Sg → Option (Int32 × z_Sg)) (x1 : Int32) (x2 : Int32) (x3 : Int32) (x4 : Int32) (q : z_Sg) : Option (Int32 × z_Sg) :=
  if (4 : Int32) ≤ x4 then (some ((1 : Int32), q)) else ((f_Pa_putByte ((x1 + x4).toInt64) ((z_iushr x2 ((8 : Int32) * x4)).toInt64) q).bind (fun r4 => (f_Pa_putByte (((x1 + (4 : Int32)) + x4).toInt64) ((z_iushr x3 ((8 : Int32) * x4)).toInt64) r4).bind (fun r5 => z_nm (x4 + (1 : Int32)) (fun n6 => ih16 (x1, x2, x3, n6, r5)))))
def k_Co_store_16 (x1 : Int32) (x2 : Int32) (x3 : Int32) (x4 : Int32) (q : z_Sg) : Option (Int32 × z_Sg) := z_lo (fun ih16 a => kb_Co_store_16 ih16 a.1 a.2.1 a.2.2.1 a.2.2.2.1 a.2.2.2.2) 2000 (x1, x2, x3, x4, q)
def f_Co_store (x1 : Int32) (x2 : Int32) (x3 : Int32) (q : z_Sg) : Option (Int32 × z_Sg) :=
  if x1 < 0 then (k_Co_store_11 q) else (if x1 ≤ (32760 : Int32) then (k_Co_store_16 x1 x2 x3 (0 : Int32) q) else (k_Co_store_11 q))
set_option maxHeartbeats 4000000 in
set_option maxRecDepth 100000 in
theorem w_Co_store_11 {p : Program} {l : Launch} {e : Env} {s : State} {m : MethodId} {args : Array Value} {below : List Frame} {meth : Method} {c : Code} {D : va_G} {A : Nat → Prop} {ad : Nat → Nat} {ca : Nat → ClassId} (o : (Int32 × z_Sg)) (C0 : z_cx z_RCo b_Co_store 5 (some .boolean) D (z_Kt ca) A p s m args meth c) (q : z_Sg) (h : k_Co_store_11 q = some o) : ∀ (H : Heap) (locs : List Loc) (ls : Array Slot), z_wd D (z_K ad ca q) A s H locs → lv_has ls 5 [] → W p l e (z_rm 1 26) s m args below meth c H locs 0 0 (z_qi below D (z_Kt ca) (z_K ad ca o.2) A s args o.1) (F0 m 11 ls []) := by
  obtain ⟨hx, hb, hr, hlk, hml, hown, hts, hK, hA⟩ := id C0
  intro H locs ls hw hl
  refine lv_iconst (v := (0 : Int32)) hx hb d_Co_store_11 (by decide) ?_
  have ho := Option.some.inj h
  subst ho
  exact z_rtz C0 hw (z_bo_n (Or.inl rfl)) d_Co_store_12
set_option maxHeartbeats 4000000 in
set_option maxRecDepth 100000 in
theorem wb_Co_store_16 {p : Program} {l : Launch} {e : Env} {s : State} {m : MethodId} {args : Array Value} {below : List Frame} {meth : Method} {c : Code} {D : va_G} {A : Nat → Prop} {ad : Nat → Nat} {ca : Nat → ClassId} (o : (Int32 × z_Sg)) (C0 : z_cx z_RCo b_Co_store 5 (some .boolean) D (z_Kt ca) A p s m args meth c) (q : z_Sg) (ih16 : Int32 × Int32 × Int32 × Int32 × z_Sg → Option (Int32 × z_Sg)) (hi16 : ∀ a : Int32 × Int32 × Int32 × Int32 × z_Sg, ih16 a = some o → ∀ (H : Heap) (locs : List Loc) (ls : Array Slot), z_wd D (z_K ad ca a.2.2.2.2) A s H locs → lv_has ls 5 [(0, .ref (ad 0)), (1, .int a.1), (2, .int a.2.1), (3, .int a.2.2.1), (4, .int a.2.2.2.1)] → W p l e (z_rm 1 26) s m args below meth c H locs 0 0 (z_qi below D (z_Kt ca) (z_K ad ca o.2) A s args o.1) (F0 m 16 ls [])) (x1 : Int32) (x2 : Int32) (x3 : Int32) (x4 : Int32) (h : kb_Co_store_16 ih16 x1 x2 x3 x4 q = some o) : ∀ (H : Heap) (locs : List Loc) (ls : Array Slot), z_wd D (z_K ad ca q) A s H locs → lv_has ls 5 [(0, .ref (ad 0)), (1, .int x1), (2, .int x2), (3, .int x3), (4, .int x4)] → W p l e (z_rm 1 26) s m args below meth c H locs 0 0 (z_qi below D (z_Kt ca) (z_K ad ca o.2) A s args o.1) (F0 m 16 ls []) := by
  obtain ⟨hx, hb, hr, hlk, hml, hown, hts, hK, hA⟩ := id C0
  intro H locs ls hw hl
  refine lv_iload hx hb d_Co_store_16 (lv_at hl 4 rfl) ?_
  refine lv_iconst (v := (4 : Int32)) hx hb d_Co_store_18 (by decide) ?_
  refine lv_icmp_ge (tgt := 70) hx hb d_Co_store_19 (by decide) (fun c3 => ?_) (fun c3 => ?_)
  · have h := ok_t h c3
    refine lv_iconst (v := (1 : Int32)) hx hb d_Co_store_70 (by decide) ?_
    have ho := Option.some.inj h
    subst ho
    exact z_rtz C0 hw (z_bo_n (Or.inr rfl)) d_Co_store_71
  · have h := ok_f h c3
    refine lv_aload_n hx hb d_Co_store_22 rfl (lv_at hl 0 rfl) ?_
    refine gfK_0_pages C0 hw fl_Co_21 d_Co_store_23 ?_
    refine lv_iload_n hx hb d_Co_store_26 rfl (lv_at hl 1 rfl) ?_
    refine lv_iload hx hb d_Co_store_27 (lv_at hl 4 rfl) ?_
    refine lv_iadd hx hb d_Co_store_29 ?_
    refine lv_i2l hx hb d_Co_store_30 rfl ?_
    refine lv_iload_n hx hb d_Co_store_31 rfl (lv_at hl 2 rfl) ?_
    refine lv_bipush (v := (8 : Int32)) hx hb d_Co_store_32 (by decide) ?_
    refine lv_iload hx hb d_Co_store_34 (lv_at hl 4 rfl) ?_
    refine lv_imul hx hb d_Co_store_36 ?_
    refine lv_iushr (v := (z_iushr x2 ((8 : Int32) * x4))) hx hb d_Co_store_37 rfl ?_
    refine lv_i2l hx hb d_Co_store_38 rfl ?_
    obtain ⟨r4, er4, h⟩ := ok_b h
    refine z_vv (rest := []) C0 hw (c_Pa_putByte ((x1 + x4).toInt64) ((z_iushr x2 ((8 : Int32) * x4)).toInt64) q r4 er4) mw_Pa_putByte ml_Co_92 3 rfl ⟨Nat.le_of_ble_eq_true rfl, Nat.le_of_ble_eq_true rfl⟩ ⟨Nat.le_refl 0, Nat.le_refl 0⟩ rfl hl.1 rfl (Nat.le_of_ble_eq_true rfl) d_Co_store_39 (fun H locs hw => ?_)
    refine lv_aload_n hx hb d_Co_store_42 rfl (lv_at hl 0 rfl) ?_
    refine gfK_0_pages C0 hw fl_Co_21 d_Co_store_43 ?_
    refine lv_iload_n hx hb d_Co_store_46 rfl (lv_at hl 1 rfl) ?_
    refine lv_iconst (v := (4 : Int32)) hx hb d_Co_store_47 (by decide) ?_
    refine lv_iadd hx hb d_Co_store_48 ?_
    refine lv_iload hx hb d_Co_store_49 (lv_at hl 4 rfl) ?_
    refine lv_iadd hx hb d_Co_store_51 ?_
    refine lv_i2l hx hb d_Co_store_52 rfl ?_
    refine lv_iload_n hx hb d_Co_store_53 rfl (lv_at hl 3 rfl) ?_
    refine lv_bipush (v := (8 : Int32)) hx hb d_Co_store_54 (by decide) ?_
    refine lv_iload hx hb d_Co_store_56 (lv_at hl 4 rfl) ?_
    refine lv_imul hx hb d_Co_store_58 ?_
    refine lv_iushr (v := (z_iushr x3 ((8 : Int32) * x4))) hx hb d_Co_store_59 rfl ?_
    refine lv_i2l hx hb d_Co_store_60 rfl ?_
    obtain ⟨r5, er5, h⟩ := ok_b h
    refine z_vv (rest := []) C0 hw (c_Pa_putByte (((x1 + (4 : Int32)) + x4).toInt64) ((z_iushr x3 ((8 : Int32) * x4)).toInt64) r4 r5 er5) mw_Pa_putByte ml_Co_92 3 rfl ⟨Nat.le_of_ble_eq_true rfl, Nat.le_of_ble_eq_true rfl⟩ ⟨Nat.le_refl 0, Nat.le_refl 0⟩ rfl hl.1 rfl (Nat.le_of_ble_eq_true rfl) d_Co_store_61 (fun H locs hw => ?_)
    obtain ⟨n6, en6, h⟩ := ok_n h
    refine lv_iinc (v := n6) (lv' := [(4, .int n6), (0, .ref (ad 0)), (1, .int x1), (2, .int x2), (3, .int x3)]) hx hb d_Co_store_64 hl (k := 4) rfl (by rw [en6]; rfl) (by decide) rfl (fun ls hl => ?_)
    refine lv_goto (tgt := 16) hx hb d_Co_store_67 (by decide) ?_
    exact hi16 (x1, x2, x3, n6, r5) h H locs ls hw (lv_sub hl [1, 2, 3, 4, 0] rfl)
theorem w_Co_store_16 {p : Program} {l : Launch} {e : Env} {s : State} {m : MethodId} {args : Array Value} {below : List Frame} {meth : Method} {c : Code} {D : va_G} {A : Nat → Prop} {ad : Nat → Nat} {ca : Nat → ClassId} (o : (Int32 × z_Sg)) (C0 : z_cx z_RCo b_Co_store 5 (some .boolean) D (z_Kt ca) A p s m args meth c) (q : z_Sg) (x1 : Int32) (x2 : Int32) (x3 : Int32) (x4 : Int32) (h : k_Co_store_16 x1 x2 x3 x4 q = some o) : ∀ (H : Heap) (locs : List Loc) (ls : Array Slot), z_wd D (z_K ad ca q) A s H locs → lv_has ls 5 [(0, .ref (ad 0)), (1, .int x1), (2, .int x2), (3, .int x3), (4, .int x4)] → W p l e (z_rm 1 26) s m args below meth c H locs 0 0 (z_qi below D (z_Kt ca) (z_K ad ca o.2) A s args o.1) (F0 m 16 ls []) := by
  have key : ∀ (n : Nat) (a : Int32 × Int32 × Int32 × Int32 × z_Sg), z_lo (fun ih16 a => kb_Co_store_16 ih16 a.1 a.2.1 a.2.2.1 a.2.2.2.1 a.2.2.2.2) n a = some o → ∀ (H : Heap) (locs : List Loc) (ls : Array Slot), z_wd D (z_K ad ca a.2.2.2.2) A s H locs → lv_has ls 5 [(0, .ref (ad 0)), (1, .int a.1), (2, .int a.2.1), (3, .int a.2.2.1), (4, .int a.2.2.2.1)] → W p l e (z_rm 1 26) s m args below meth c H locs 0 0 (z_qi below D (z_Kt ca) (z_K ad ca o.2) A s args o.1) (F0 m 16 ls []) := by
    intro n
    induction n with
    | zero => intro a h; cases h
    | succ n ih => exact fun a h => wb_Co_store_16 o C0 a.2.2.2.2 (z_lo (fun ih16 a => kb_Co_store_16 ih16 a.1 a.2.1 a.2.2.1 a.2.2.2.1 a.2.2.2.2) n) ih a.1 a.2.1 a.2.2.1 a.2.2.2.1 h
  exact key 2000 (x1, x2, x3, x4, q) h
set_option maxHeartbeats 4000000 in
set_option maxRecDepth 100000 in
theorem c_Co_store {l : Launch} {D : va_G} {ad : Nat → Nat} {ca : Nat → ClassId} (x1 : Int32) (x2 : Int32) (x3 : Int32) (q : z_Sg) (o : (Int32 × z_Sg)) (h : f_Co_store x1 x2 x3 q = some o) : z_ci l y_Co_store b_Co_store 5 (some .boolean) 1 26 D (z_Kt ca) (z_K ad ca q) (z_K ad ca o.2) [.ref (ad 0), .int x1, .int x2, .int x3] o.1 := by
  refine z_ci_of (own := z_RCo) (by decide) rfl ?_
  intro p e s m below meth c A C0 hw
  obtain ⟨hx, hb, hr, hlk, hml, hown, hts, hK, hA⟩ := id C0
  generalize hH : s.heap = H at hw ⊢
  generalize hlo : ([] : List Loc) = locs at hw ⊢
  refine z_entry (lv := [(0, .ref (ad 0)), (1, .int x1), (2, .int x2), (3, .int x3)]) (Nat.le_of_ble_eq_true rfl) rfl (fun ls hl => ?_)
  unfold f_Co_store at h
  refine lv_iload_n hx hb d_Co_store_0 rfl (lv_at hl 1 rfl) ?_
  refine lv_if_lt (tgt := 11) hx hb d_Co_store_1 (by decide) (fun c1 => ?_) (fun c1 => ?_)
  · have h := ok_t h c1
    exact w_Co_store_11 o C0 q h H locs ls hw (lv_sub hl [] rfl)
  · have h := ok_f h c1
    refine lv_iload_n hx hb d_Co_store_4 rfl (lv_at hl 1 rfl) ?_
    refine lv_sipush (v := (32760 : Int32)) hx hb d_Co_store_5 (by decide) ?_
    refine lv_icmp_le (tgt := 13) hx hb d_Co_store_8 (by decide) (fun c2 => ?_) (fun c2 => ?_)
    · have h := ok_t h c2
      refine lv_iconst (v := (0 : Int32)) hx hb d_Co_store_13 (by decide) ?_
      refine lv_istore (lv' := [(4, .int (0 : Int32)), (0, .ref (ad 0)), (1, .int x1), (2, .int x2), (3, .int x3)]) hx hb d_Co_store_14 hl (by decide) rfl (fun ls hl => ?_)
      exact w_Co_store_16 o C0 q x1 x2 x3 (0 : Int32) h H locs ls hw (lv_sub hl [1, 2, 3, 4, 0] rfl)
    · have h := ok_f h c2
      exact w_Co_store_11 o C0 q h H locs ls hw (lv_sub hl [] rfl)
def k_Pa_byteAt_14 (q : z_Sg) : Option Int32 :=
  some (0 : Int32)
def f_Pa_byteAt (x1 : Int64) (q : z_Sg) : Option Int32 :=
  if x1 < (0 : Int64) then (k_Pa_byteAt_14 q) else (if x1 < (32768 : Int64) then (z_nm (((8 : Int32) * ((x1 &&& (7 : Int64)).toInt32))) (fun n3 => if z_bad ((z_lushr x1 (3 : Int32)).toInt32) 4096 then none else (some (((z_lushr (z_gM q 1 ((z_lushr x1 (3 : Int32)).toInt32).toNatClampNeg) n3).toInt32) &&& (255 : Int32))))) else (k_Pa_byteAt_14 q))
set_option maxHeartbeats 4000000 in
set_option maxRecDepth 100000 in
theorem w_Pa_byteAt_14 {p : Program} {l : Launch} {e : Env} {s : State} {m : MethodId} {args : Array Value} {below : List Frame} {meth : Method} {c : Code} {D : va_G} {A : Nat → Prop} {ad : Nat → Nat} {ca : Nat → ClassId} (o : Int32) (C0 : z_cx z_RPa b_Pa_byteAt 4 (some .int) D (z_Kt ca) A p s m args meth c) (q : z_Sg) (h : k_Pa_byteAt_14 q = some o) : ∀ (H : Heap) (locs : List Loc) (ls : Array Slot), z_wd D (z_K ad ca q) A s H locs → lv_has ls 4 [] → W p l e (z_rm 0 0) s m args below meth c H locs 0 0 (z_qi below D (z_Kt ca) (z_K ad ca q) A s args o) (F0 m 14 ls []) := by
  obtain ⟨hx, hb, hr, hlk, hml, hown, hts, hK, hA⟩ := id C0
  intro H locs ls hw hl
  refine lv_iconst (v := (0 : Int32)) hx hb d_Pa_byteAt_14 (by decide) ?_
  have ho := Option.some.inj h
  subst ho
  exact z_rti C0 hw d_Pa_byteAt_15
set_option maxHeartbeats 4000000 in
set_option maxRecDepth 100000 in
theorem c_Pa_byteAt {l : Launch} {D : va_G} {ad : Nat → Nat} {ca : Nat → ClassId} (x1 : Int64) (q : z_Sg) (o : Int32) (h : f_Pa_byteAt x1 q = some o) : z_ci l y_Pa_byteAt b_Pa_byteAt 4 (some .int) 0 0 D (z_Kt ca) (z_K ad ca q) (z_K ad ca q) [.ref (ad 3), .long x1] o := by
  refine z_ci_of (own := z_RPa) (by decide) rfl ?_
  intro p e s m below meth c A C0 hw
  obtain ⟨hx, hb, hr, hlk, hml, hown, hts, hK, hA⟩ := id C0
  generalize hH : s.heap = H at hw ⊢
  generalize hlo : ([] : List Loc) = locs at hw ⊢
  refine z_entry (lv := [(0, .ref (ad 3)), (1, .long x1)]) (Nat.le_of_ble_eq_true rfl) rfl (fun ls hl => ?_)
  unfold f_Pa_byteAt at h
  refine lv_lload_n hx hb d_Pa_byteAt_0 rfl (lv_at hl 1 rfl) ?_
  refine lv_lconst (v := (0 : Int64)) hx hb d_Pa_byteAt_1 (by decide) ?_
  refine W.lcmp hx hb d_Pa_byteAt_2 ?_
  refine lv_if_lt (tgt := 14) hx hb d_Pa_byteAt_3 (by decide) (fun c1 => ?_) (fun c1 => ?_)
  · have h := ok_t h ((lg_cmp_lt _ _).mp c1)
    exact w_Pa_byteAt_14 o C0 q h H locs ls hw (lv_sub hl [] rfl)
  · have h := ok_f h (fun z => c1 ((lg_cmp_lt _ _).mpr z))
    refine lv_lload_n hx hb d_Pa_byteAt_6 rfl (lv_at hl 1 rfl) ?_
    refine lv_ldc2 (own := z_RPa) hx hb hown (hts _ kl_Pa_19) d_Pa_byteAt_7 ?_
    refine W.lcmp hx hb d_Pa_byteAt_10 ?_
    refine lv_if_lt (tgt := 16) hx hb d_Pa_byteAt_11 (by decide) (fun c2 => ?_) (fun c2 => ?_)
    · have h := ok_t h ((lg_cmp_lt _ _).mp c2)
      refine lv_bipush (v := (8 : Int32)) hx hb d_Pa_byteAt_16 (by decide) ?_
      refine lv_lload_n hx hb d_Pa_byteAt_18 rfl (lv_at hl 1 rfl) ?_
      refine lv_ldc2 (own := z_RPa) hx hb hown (hts _ kl_Pa_21) d_Pa_byteAt_19 ?_
      refine lv_land hx hb d_Pa_byteAt_22 ?_
      refine lv_l2i hx hb d_Pa_byteAt_23 rfl ?_
      refine lv_imul hx hb d_Pa_byteAt_24 ?_
      obtain ⟨n3, en3, h⟩ := ok_n h
      refine z_ti en3 ?_
      refine lv_istore_n (lv' := [(3, .int n3), (0, .ref (ad 3)), (1, .long x1)]) hx hb d_Pa_byteAt_25 rfl hl (by decide) rfl (fun ls hl => ?_)
      refine lv_aload_n hx hb d_Pa_byteAt_26 rfl (lv_at hl 1 rfl) ?_
      refine gfK_3_words C0 hw fl_Pa_11 d_Pa_byteAt_27 ?_
      refine lv_lload_n hx hb d_Pa_byteAt_30 rfl (lv_at hl 2 rfl) ?_
      refine lv_iconst (v := (3 : Int32)) hx hb d_Pa_byteAt_31 (by decide) ?_
      refine lv_lushr (v := (z_lushr x1 (3 : Int32))) hx hb d_Pa_byteAt_32 rfl ?_
      refine lv_l2i hx hb d_Pa_byteAt_33 rfl ?_
      obtain ⟨b4, h⟩ := ok_g h
      refine alK_4 C0 hw b4 d_Pa_byteAt_34 ?_
      refine lv_iload_n hx hb d_Pa_byteAt_35 rfl (lv_at hl 0 rfl) ?_
      refine lv_lushr (v := (z_lushr (z_gM q 1 ((z_lushr x1 (3 : Int32)).toInt32).toNatClampNeg) n3)) hx hb d_Pa_byteAt_36 rfl ?_
      refine lv_l2i hx hb d_Pa_byteAt_37 rfl ?_
      refine lv_sipush (v := (255 : Int32)) hx hb d_Pa_byteAt_38 (by decide) ?_
      refine lv_iand hx hb d_Pa_byteAt_41 ?_
      have ho := Option.some.inj h
      subst ho
      exact z_rti C0 hw d_Pa_byteAt_42
    · have h := ok_f h (fun z => c2 ((lg_cmp_lt _ _).mpr z))
      exact w_Pa_byteAt_14 o C0 q h H locs ls hw (lv_sub hl [] rfl)
def kb_Co_stored_5 (ih5 : Int32 × Int64 × Int32 → Option Int64) (x1 : Int32) (x2 : Int64) (x4 : Int32) (q : z_Sg) : Option Int64 :=
  if (8 : Int32) ≤ x4 then (some x2) else ((f_Pa_byteAt ((x1.toInt64) + (x4.toInt64)) q).bind (fun r2 => z_nm ((x2 ||| (z_lshl (r2.toInt64) ((8 : Int32) * x4)))) (fun n3 => z_nm (x4 + (1 : Int32)) (fun n4 => ih5 (x1, n3, n4)))))
def k_Co_stored_5 (x1 : Int32) (x2 : Int64) (x4 : Int32) (q : z_Sg) : Option Int64 := z_lo (fun ih5 a => kb_Co_stored_5 ih5 a.1 a.2.1 a.2.2 q) 2000 (x1, x2, x4)
def f_Co_stored (x1 : Int32) (q : z_Sg) : Option Int64 :=
  k_Co_stored_5 x1 (0 : Int64) (0 : Int32) q
set_option maxHeartbeats 4000000 in
set_option maxRecDepth 100000 in
theorem wb_Co_stored_5 {p : Program} {l : Launch} {e : Env} {s : State} {m : MethodId} {args : Array Value} {below : List Frame} {meth : Method} {c : Code} {D : va_G} {A : Nat → Prop} {ad : Nat → Nat} {ca : Nat → ClassId} (o : Int64) (C0 : z_cx z_RCo b_Co_stored 5 (some .long) D (z_Kt ca) A p s m args meth c) (q : z_Sg) (ih5 : Int32 × Int64 × Int32 → Option Int64) (hi5 : ∀ a : Int32 × Int64 × Int32, ih5 a = some o → ∀ (H : Heap) (locs : List Loc) (ls : Array Slot), z_wd D (z_K ad ca q) A s H locs → lv_has ls 5 [(0, .ref (ad 0)), (1, .int a.1), (2, .long a.2.1), (4, .int a.2.2)] → W p l e (z_rm 1 23) s m args below meth c H locs 0 0 (z_ql below D (z_Kt ca) (z_K ad ca q) A s args o) (F0 m 5 ls [])) (x1 : Int32) (x2 : Int64) (x4 : Int32) (h : kb_Co_stored_5 ih5 x1 x2 x4 q = some o) : ∀ (H : Heap) (locs : List Loc) (ls : Array Slot), z_wd D (z_K ad ca q) A s H locs → lv_has ls 5 [(0, .ref (ad 0)), (1, .int x1), (2, .long x2), (4, .int x4)] → W p l e (z_rm 1 23) s m args below meth c H locs 0 0 (z_ql below D (z_Kt ca) (z_K ad ca q) A s args o) (F0 m 5 ls []) := by
  obtain ⟨hx, hb, hr, hlk, hml, hown, hts, hK, hA⟩ := id C0
  intro H locs ls hw hl
  refine lv_iload hx hb d_Co_stored_5 (lv_at hl 3 rfl) ?_
  refine lv_bipush (v := (8 : Int32)) hx hb d_Co_stored_7 (by decide) ?_
  refine lv_icmp_ge (tgt := 41) hx hb d_Co_stored_9 (by decide) (fun c1 => ?_) (fun c1 => ?_)
  · have h := ok_t h c1
    refine lv_lload_n hx hb d_Co_stored_41 rfl (lv_at hl 2 rfl) ?_
    have ho := Option.some.inj h
    subst ho
    exact z_rtl C0 hw d_Co_stored_42
  · have h := ok_f h c1
    refine lv_lload_n hx hb d_Co_stored_12 rfl (lv_at hl 2 rfl) ?_
    refine lv_aload_n hx hb d_Co_stored_13 rfl (lv_at hl 0 rfl) ?_
    refine gfK_0_pages C0 hw fl_Co_21 d_Co_stored_14 ?_
    refine lv_iload_n hx hb d_Co_stored_17 rfl (lv_at hl 1 rfl) ?_
    refine lv_i2l hx hb d_Co_stored_18 rfl ?_
    refine lv_iload hx hb d_Co_stored_19 (lv_at hl 3 rfl) ?_
    refine lv_i2l hx hb d_Co_stored_21 rfl ?_
    refine lv_ladd hx hb d_Co_stored_22 ?_
    obtain ⟨r2, er2, h⟩ := ok_b h
    refine z_vi (rest := [.long x2]) C0 hw (c_Pa_byteAt ((x1.toInt64) + (x4.toInt64)) q r2 er2) mw_Pa_byteAt ml_Co_96 3 rfl ⟨Nat.le_of_ble_eq_true rfl, Nat.le_of_ble_eq_true rfl⟩ ⟨Nat.le_refl 0, Nat.le_refl 0⟩ rfl hl.1 rfl (Nat.le_of_ble_eq_true rfl) d_Co_stored_23 (fun H locs hw => ?_)
    refine lv_i2l hx hb d_Co_stored_26 rfl ?_
    refine lv_bipush (v := (8 : Int32)) hx hb d_Co_stored_27 (by decide) ?_
    refine lv_iload hx hb d_Co_stored_29 (lv_at hl 3 rfl) ?_
    refine lv_imul hx hb d_Co_stored_31 ?_
    refine lv_lshl (v := (z_lshl (r2.toInt64) ((8 : Int32) * x4))) hx hb d_Co_stored_32 rfl ?_
    refine lv_lor hx hb d_Co_stored_33 ?_
    obtain ⟨n3, en3, h⟩ := ok_n h
    refine z_tl en3 ?_
    refine lv_lstore_n (lv' := [(2, .long n3), (0, .ref (ad 0)), (1, .int x1), (4, .int x4)]) hx hb d_Co_stored_34 rfl hl (by decide) rfl (fun ls hl => ?_)
    obtain ⟨n4, en4, h⟩ := ok_n h
    refine lv_iinc (v := n4) (lv' := [(4, .int n4), (2, .long n3), (0, .ref (ad 0)), (1, .int x1)]) hx hb d_Co_stored_35 hl (k := 3) rfl (by rw [en4]; rfl) (by decide) rfl (fun ls hl => ?_)
    refine lv_goto (tgt := 5) hx hb d_Co_stored_38 (by decide) ?_
    exact hi5 (x1, n3, n4) h H locs ls hw (lv_sub hl [2, 3, 1, 0] rfl)
theorem w_Co_stored_5 {p : Program} {l : Launch} {e : Env} {s : State} {m : MethodId} {args : Array Value} {below : List Frame} {meth : Method} {c : Code} {D : va_G} {A : Nat → Prop} {ad : Nat → Nat} {ca : Nat → ClassId} (o : Int64) (C0 : z_cx z_RCo b_Co_stored 5 (some .long) D (z_Kt ca) A p s m args meth c) (q : z_Sg) (x1 : Int32) (x2 : Int64) (x4 : Int32) (h : k_Co_stored_5 x1 x2 x4 q = some o) : ∀ (H : Heap) (locs : List Loc) (ls : Array Slot), z_wd D (z_K ad ca q) A s H locs → lv_has ls 5 [(0, .ref (ad 0)), (1, .int x1), (2, .long x2), (4, .int x4)] → W p l e (z_rm 1 23) s m args below meth c H locs 0 0 (z_ql below D (z_Kt ca) (z_K ad ca q) A s args o) (F0 m 5 ls []) := by
  have key : ∀ (n : Nat) (a : Int32 × Int64 × Int32), z_lo (fun ih5 a => kb_Co_stored_5 ih5 a.1 a.2.1 a.2.2 q) n a = some o → ∀ (H : Heap) (locs : List Loc) (ls : Array Slot), z_wd D (z_K ad ca q) A s H locs → lv_has ls 5 [(0, .ref (ad 0)), (1, .int a.1), (2, .long a.2.1), (4, .int a.2.2)] → W p l e (z_rm 1 23) s m args below meth c H locs 0 0 (z_ql below D (z_Kt ca) (z_K ad ca q) A s args o) (F0 m 5 ls []) := by
    intro n
    induction n with
    | zero => intro a h; cases h
    | succ n ih => exact fun a h => wb_Co_stored_5 o C0 q (z_lo (fun ih5 a => kb_Co_stored_5 ih5 a.1 a.2.1 a.2.2 q) n) ih a.1 a.2.1 a.2.2 h
  exact key 2000 (x1, x2, x4) h
set_option maxHeartbeats 4000000 in
set_option maxRecDepth 100000 in
theorem c_Co_stored {l : Launch} {D : va_G} {ad : Nat → Nat} {ca : Nat → ClassId} (x1 : Int32) (q : z_Sg) (o : Int64) (h : f_Co_stored x1 q = some o) : z_cl l y_Co_stored b_Co_stored 5 (some .long) 1 23 D (z_Kt ca) (z_K ad ca q) (z_K ad ca q) [.ref (ad 0), .int x1] o := by
  refine z_cl_of (own := z_RCo) (by decide) rfl ?_
  intro p e s m below meth c A C0 hw
  obtain ⟨hx, hb, hr, hlk, hml, hown, hts, hK, hA⟩ := id C0
  generalize hH : s.heap = H at hw ⊢
  generalize hlo : ([] : List Loc) = locs at hw ⊢
  refine z_entry (lv := [(0, .ref (ad 0)), (1, .int x1)]) (Nat.le_of_ble_eq_true rfl) rfl (fun ls hl => ?_)
  unfold f_Co_stored at h
  refine lv_lconst (v := (0 : Int64)) hx hb d_Co_stored_0 (by decide) ?_
  refine lv_lstore_n (lv' := [(2, .long (0 : Int64)), (0, .ref (ad 0)), (1, .int x1)]) hx hb d_Co_stored_1 rfl hl (by decide) rfl (fun ls hl => ?_)
  refine lv_iconst (v := (0 : Int32)) hx hb d_Co_stored_2 (by decide) ?_
  refine lv_istore (lv' := [(4, .int (0 : Int32)), (2, .long (0 : Int64)), (0, .ref (ad 0)), (1, .int x1)]) hx hb d_Co_stored_3 hl (by decide) rfl (fun ls hl => ?_)
  exact w_Co_stored_5 o C0 q x1 (0 : Int64) (0 : Int32) h H locs ls hw (lv_sub hl [2, 3, 1, 0] rfl)
def f_Co_joined (x0 : Int32) (x1 : Int32) (q : z_Sg) : Option Int64 :=
  some ((z_lshl (x0.toInt64) (32 : Int32)) ||| ((x1.toInt64) &&& (4294967295 : Int64)))
set_option maxHeartbeats 4000000 in
set_option maxRecDepth 100000 in
theorem c_Co_joined {l : Launch} {D : va_G} {ad : Nat → Nat} {ca : Nat → ClassId} (x0 : Int32) (x1 : Int32) (q : z_Sg) (o : Int64) (h : f_Co_joined x0 x1 q = some o) : z_cl l y_Co_joined b_Co_joined 2 (some .long) 0 0 D (z_Kt ca) (z_K ad ca q) (z_K ad ca q) [.int x0, .int x1] o := by
  refine z_cl_of (own := z_RCo) (by decide) rfl ?_
  intro p e s m below meth c A C0 hw
  obtain ⟨hx, hb, hr, hlk, hml, hown, hts, hK, hA⟩ := id C0
  generalize hH : s.heap = H at hw ⊢
  generalize hlo : ([] : List Loc) = locs at hw ⊢
  refine z_entry (lv := [(0, .int x0), (1, .int x1)]) (Nat.le_of_ble_eq_true rfl) rfl (fun ls hl => ?_)
  unfold f_Co_joined at h
  refine lv_iload_n hx hb d_Co_joined_0 rfl (lv_at hl 0 rfl) ?_
  refine lv_i2l hx hb d_Co_joined_1 rfl ?_
  refine lv_bipush (v := (32 : Int32)) hx hb d_Co_joined_2 (by decide) ?_
  refine lv_lshl (v := (z_lshl (x0.toInt64) (32 : Int32))) hx hb d_Co_joined_4 rfl ?_
  refine lv_iload_n hx hb d_Co_joined_5 rfl (lv_at hl 1 rfl) ?_
  refine lv_i2l hx hb d_Co_joined_6 rfl ?_
  refine lv_ldc2 (own := z_RCo) hx hb hown (hts _ kl_Co_166) d_Co_joined_7 ?_
  refine lv_land hx hb d_Co_joined_10 ?_
  refine lv_lor hx hb d_Co_joined_11 ?_
  have ho := Option.some.inj h
  subst ho
  exact z_rtl C0 hw d_Co_joined_12
def k_Co_set_30 (x1 : Int32) (x3 : Int32) (x4 : Int64) (q : z_Sg) : Option (Int32 × z_Sg) :=
  if x1 = (16 : Int32) then (z_nm (z_sL q 0 x4) (fun q4 => some ((1 : Int32), q4))) else (if x1 = (17 : Int32) then (z_nm (z_sL q 1 x4) (fun q6 => some ((1 : Int32), q6))) else (if x1 = (18 : Int32) then (z_nm (z_sL q 2 x4) (fun q8 => some ((1 : Int32), q8))) else (if x1 = (19 : Int32) then (z_nm (z_sL q 3 x4) (fun q10 => some ((1 : Int32), q10))) else (if x1 = (20 : Int32) then (z_nm (z_sI q 0 (x3 &&& (3285 : Int32))) (fun q12 => some ((1 : Int32), q12))) else (if x1 = (21 : Int32) then (z_nm (z_sL q 4 x4) (fun q14 => some ((1 : Int32), q14))) else (some ((0 : Int32), q)))))))
def f_Co_set (x1 : Int32) (x2 : Int32) (x3 : Int32) (q : z_Sg) : Option (Int32 × z_Sg) :=
  (f_Co_joined x2 x3 q).bind (fun r1 => if x1 < 0 then (k_Co_set_30 x1 x3 r1 q) else (if (16 : Int32) ≤ x1 then (k_Co_set_30 x1 x3 r1 q) else (if z_bad x1 16 then none else (z_nm (z_sM q 0 x1.toNatClampNeg r1) (fun q17 => some ((1 : Int32), q17))))))
set_option maxHeartbeats 4000000 in
set_option maxRecDepth 100000 in
theorem w_Co_set_30 {p : Program} {l : Launch} {e : Env} {s : State} {m : MethodId} {args : Array Value} {below : List Frame} {meth : Method} {c : Code} {D : va_G} {A : Nat → Prop} {ad : Nat → Nat} {ca : Nat → ClassId} (o : (Int32 × z_Sg)) (C0 : z_cx z_RCo b_Co_set 6 (some .boolean) D (z_Kt ca) A p s m args meth c) (q : z_Sg) (x1 : Int32) (x3 : Int32) (x4 : Int64) (h : k_Co_set_30 x1 x3 x4 q = some o) : ∀ (H : Heap) (locs : List Loc) (ls : Array Slot), z_wd D (z_K ad ca q) A s H locs → lv_has ls 6 [(0, .ref (ad 0)), (1, .int x1), (3, .int x3), (4, .long x4)] → W p l e (z_rm 1 21) s m args below meth c H locs 0 0 (z_qi below D (z_Kt ca) (z_K ad ca o.2) A s args o.1) (F0 m 30 ls []) := by
  obtain ⟨hx, hb, hr, hlk, hml, hown, hts, hK, hA⟩ := id C0
  intro H locs ls hw hl
  refine lv_iload_n hx hb d_Co_set_30 rfl (lv_at hl 1 rfl) ?_
  by_cases c3 : x1 = (16 : Int32)
  · have h := ok_t h c3
    refine lv_tableIn (off := 37) (tgt := 68) hx hb d_Co_set_31 (by rw [c3]; decide) (by rw [c3]; decide) (by rw [c3]; rfl) (by decide) ?_
    refine lv_aload_n hx hb d_Co_set_68 rfl (lv_at hl 0 rfl) ?_
    refine gfK_0_state C0 hw fl_Co_12 d_Co_set_69 ?_
    refine lv_lload hx hb d_Co_set_72 (lv_at hl 3 rfl) ?_
    refine pfK_1_next C0 hw fl_Co_108 d_Co_set_74 (fun H locs hw => ?_)
    obtain ⟨q4, eq4, h⟩ := ok_n h
    rw [← eq4] at hw
    refine lv_iconst (v := (1 : Int32)) hx hb d_Co_set_77 (by decide) ?_
    have ho := Option.some.inj h
    subst ho
    exact z_rtz C0 hw (z_bo_n (Or.inr rfl)) d_Co_set_78
  have h := ok_f h c3
  by_cases c5 : x1 = (17 : Int32)
  · have h := ok_t h c5
    refine lv_tableIn (off := 48) (tgt := 79) hx hb d_Co_set_31 (by rw [c5]; decide) (by rw [c5]; decide) (by rw [c5]; rfl) (by decide) ?_
    refine lv_aload_n hx hb d_Co_set_79 rfl (lv_at hl 0 rfl) ?_
    refine gfK_0_state C0 hw fl_Co_12 d_Co_set_80 ?_
    refine lv_lload hx hb d_Co_set_83 (lv_at hl 3 rfl) ?_
    refine pfK_1_table C0 hw fl_Co_112 d_Co_set_85 (fun H locs hw => ?_)
    obtain ⟨q6, eq6, h⟩ := ok_n h
    rw [← eq6] at hw
    refine lv_iconst (v := (1 : Int32)) hx hb d_Co_set_88 (by decide) ?_
    have ho := Option.some.inj h
    subst ho
    exact z_rtz C0 hw (z_bo_n (Or.inr rfl)) d_Co_set_89
  have h := ok_f h c5
  by_cases c7 : x1 = (18 : Int32)
  · have h := ok_t h c7
    refine lv_tableIn (off := 59) (tgt := 90) hx hb d_Co_set_31 (by rw [c7]; decide) (by rw [c7]; decide) (by rw [c7]; rfl) (by decide) ?_
    refine lv_aload_n hx hb d_Co_set_90 rfl (lv_at hl 0 rfl) ?_
    refine gfK_0_state C0 hw fl_Co_12 d_Co_set_91 ?_
    refine lv_lload hx hb d_Co_set_94 (lv_at hl 3 rfl) ?_
    refine pfK_1_entry C0 hw fl_Co_115 d_Co_set_96 (fun H locs hw => ?_)
    obtain ⟨q8, eq8, h⟩ := ok_n h
    rw [← eq8] at hw
    refine lv_iconst (v := (1 : Int32)) hx hb d_Co_set_99 (by decide) ?_
    have ho := Option.some.inj h
    subst ho
    exact z_rtz C0 hw (z_bo_n (Or.inr rfl)) d_Co_set_100
  have h := ok_f h c7
  by_cases c9 : x1 = (19 : Int32)
  · have h := ok_t h c9
    refine lv_tableIn (off := 70) (tgt := 101) hx hb d_Co_set_31 (by rw [c9]; decide) (by rw [c9]; decide) (by rw [c9]; rfl) (by decide) ?_
    refine lv_aload_n hx hb d_Co_set_101 rfl (lv_at hl 0 rfl) ?_
    refine gfK_0_state C0 hw fl_Co_12 d_Co_set_102 ?_
    refine lv_lload hx hb d_Co_set_105 (lv_at hl 3 rfl) ?_
    refine pfK_1_mask C0 hw fl_Co_118 d_Co_set_107 (fun H locs hw => ?_)
    obtain ⟨q10, eq10, h⟩ := ok_n h
    rw [← eq10] at hw
    refine lv_iconst (v := (1 : Int32)) hx hb d_Co_set_110 (by decide) ?_
    have ho := Option.some.inj h
    subst ho
    exact z_rtz C0 hw (z_bo_n (Or.inr rfl)) d_Co_set_111
  have h := ok_f h c9
  by_cases c11 : x1 = (20 : Int32)
  · have h := ok_t h c11
    refine lv_tableIn (off := 81) (tgt := 112) hx hb d_Co_set_31 (by rw [c11]; decide) (by rw [c11]; decide) (by rw [c11]; rfl) (by decide) ?_
    refine lv_aload_n hx hb d_Co_set_112 rfl (lv_at hl 0 rfl) ?_
    refine gfK_0_state C0 hw fl_Co_12 d_Co_set_113 ?_
    refine lv_iload_n hx hb d_Co_set_116 rfl (lv_at hl 2 rfl) ?_
    refine lv_sipush (v := (3285 : Int32)) hx hb d_Co_set_117 (by decide) ?_
    refine lv_iand hx hb d_Co_set_120 ?_
    refine pfK_1_flags C0 hw fl_Co_121 d_Co_set_121 (fun H locs hw => ?_)
    obtain ⟨q12, eq12, h⟩ := ok_n h
    rw [← eq12] at hw
    refine lv_iconst (v := (1 : Int32)) hx hb d_Co_set_124 (by decide) ?_
    have ho := Option.some.inj h
    subst ho
    exact z_rtz C0 hw (z_bo_n (Or.inr rfl)) d_Co_set_125
  have h := ok_f h c11
  by_cases c13 : x1 = (21 : Int32)
  · have h := ok_t h c13
    refine lv_tableIn (off := 95) (tgt := 126) hx hb d_Co_set_31 (by rw [c13]; decide) (by rw [c13]; decide) (by rw [c13]; rfl) (by decide) ?_
    refine lv_aload_n hx hb d_Co_set_126 rfl (lv_at hl 0 rfl) ?_
    refine gfK_0_state C0 hw fl_Co_12 d_Co_set_127 ?_
    refine lv_lload hx hb d_Co_set_130 (lv_at hl 3 rfl) ?_
    refine pfK_1_undefined C0 hw fl_Co_125 d_Co_set_132 (fun H locs hw => ?_)
    obtain ⟨q14, eq14, h⟩ := ok_n h
    rw [← eq14] at hw
    refine lv_iconst (v := (1 : Int32)) hx hb d_Co_set_135 (by decide) ?_
    have ho := Option.some.inj h
    subst ho
    exact z_rtz C0 hw (z_bo_n (Or.inr rfl)) d_Co_set_136
  have h := ok_f h c13
  refine lv_tableOut (tgt := 137) hx hb d_Co_set_31 (by have zc3 := lv_neT c3 (a := 16) rfl; have zc5 := lv_neT c5 (a := 17) rfl; have zc7 := lv_neT c7 (a := 18) rfl; have zc9 := lv_neT c9 (a := 19) rfl; have zc11 := lv_neT c11 (a := 20) rfl; have zc13 := lv_neT c13 (a := 21) rfl; omega) (by decide) ?_
  refine lv_iconst (v := (0 : Int32)) hx hb d_Co_set_137 (by decide) ?_
  have ho := Option.some.inj h
  subst ho
  exact z_rtz C0 hw (z_bo_n (Or.inl rfl)) d_Co_set_138
set_option maxHeartbeats 4000000 in
set_option maxRecDepth 100000 in
theorem c_Co_set {l : Launch} {D : va_G} {ad : Nat → Nat} {ca : Nat → ClassId} (x1 : Int32) (x2 : Int32) (x3 : Int32) (q : z_Sg) (o : (Int32 × z_Sg)) (h : f_Co_set x1 x2 x3 q = some o) : z_ci l y_Co_set b_Co_set 6 (some .boolean) 1 21 D (z_Kt ca) (z_K ad ca q) (z_K ad ca o.2) [.ref (ad 0), .int x1, .int x2, .int x3] o.1 := by
  refine z_ci_of (own := z_RCo) (by decide) rfl ?_
  intro p e s m below meth c A C0 hw
  obtain ⟨hx, hb, hr, hlk, hml, hown, hts, hK, hA⟩ := id C0
  generalize hH : s.heap = H at hw ⊢
  generalize hlo : ([] : List Loc) = locs at hw ⊢
  refine z_entry (lv := [(0, .ref (ad 0)), (1, .int x1), (2, .int x2), (3, .int x3)]) (Nat.le_of_ble_eq_true rfl) rfl (fun ls hl => ?_)
  unfold f_Co_set at h
  refine lv_iload_n hx hb d_Co_set_0 rfl (lv_at hl 2 rfl) ?_
  refine lv_iload_n hx hb d_Co_set_1 rfl (lv_at hl 3 rfl) ?_
  obtain ⟨r1, er1, h⟩ := ok_b h
  refine z_sl (rest := []) C0 hw (c_Co_joined x2 x3 q r1 er1) mw_Co_joined ml_Co_100 ⟨Nat.le_of_ble_eq_true rfl, Nat.le_of_ble_eq_true rfl⟩ ⟨Nat.le_refl 0, Nat.le_refl 0⟩ rfl hl.1 rfl (Nat.le_of_ble_eq_true rfl) d_Co_set_2 (fun H locs hw => ?_)
  refine lv_lstore (lv' := [(4, .long r1), (0, .ref (ad 0)), (1, .int x1), (2, .int x2), (3, .int x3)]) hx hb d_Co_set_5 hl (by decide) rfl (fun ls hl => ?_)
  refine lv_iload_n hx hb d_Co_set_7 rfl (lv_at hl 2 rfl) ?_
  refine lv_if_lt (tgt := 30) hx hb d_Co_set_8 (by decide) (fun c2 => ?_) (fun c2 => ?_)
  · have h := ok_t h c2
    exact w_Co_set_30 o C0 q x1 x3 r1 h H locs ls hw (lv_sub hl [1, 2, 4, 0] rfl)
  · have h := ok_f h c2
    refine lv_iload_n hx hb d_Co_set_11 rfl (lv_at hl 2 rfl) ?_
    refine lv_bipush (v := (16 : Int32)) hx hb d_Co_set_12 (by decide) ?_
    refine lv_icmp_ge (tgt := 30) hx hb d_Co_set_14 (by decide) (fun c15 => ?_) (fun c15 => ?_)
    · have h := ok_t h c15
      exact w_Co_set_30 o C0 q x1 x3 r1 h H locs ls hw (lv_sub hl [1, 2, 4, 0] rfl)
    · have h := ok_f h c15
      refine lv_aload_n hx hb d_Co_set_17 rfl (lv_at hl 1 rfl) ?_
      refine gfK_0_state C0 hw fl_Co_12 d_Co_set_18 ?_
      refine gfK_1_registers C0 hw fl_Co_104 d_Co_set_21 ?_
      refine lv_iload_n hx hb d_Co_set_24 rfl (lv_at hl 2 rfl) ?_
      refine lv_lload hx hb d_Co_set_25 (lv_at hl 0 rfl) ?_
      obtain ⟨b16, h⟩ := ok_g h
      refine asK_2 C0 hw b16 d_Co_set_27 (fun H locs hw => ?_)
      obtain ⟨q17, eq17, h⟩ := ok_n h
      rw [← eq17] at hw
      refine lv_iconst (v := (1 : Int32)) hx hb d_Co_set_28 (by decide) ?_
      have ho := Option.some.inj h
      subst ho
      exact z_rtz C0 hw (z_bo_n (Or.inr rfl)) d_Co_set_29
def k_Co_get_155 (t0 : Int64) (q : z_Sg) : Option Int64 :=
  some t0
def k_Co_get_20 (x1 : Int32) (q : z_Sg) : Option Int64 :=
  if x1 = (16 : Int32) then (some (z_gL q 0)) else (if x1 = (17 : Int32) then (some (z_gL q 1)) else (if x1 = (18 : Int32) then (some (z_gL q 2)) else (if x1 = (19 : Int32) then (some (z_gL q 3)) else (if x1 = (20 : Int32) then (some ((z_gI q 0).toInt64)) else (if x1 = (21 : Int32) then (some (z_gL q 4)) else (if x1 = (22 : Int32) then (some (z_gL q 5)) else (if x1 = (23 : Int32) then (some ((z_gI q 1).toInt64)) else (if x1 = (24 : Int32) then (if (z_gI q 2) = 0 then (k_Co_get_155 (0 : Int64) q) else (k_Co_get_155 (3 : Int64) q)) else (some (0 : Int64))))))))))
def f_Co_get (x1 : Int32) (q : z_Sg) : Option Int64 :=
  if x1 < 0 then (k_Co_get_20 x1 q) else (if (16 : Int32) ≤ x1 then (k_Co_get_20 x1 q) else (if z_bad x1 16 then none else (some (z_gM q 0 x1.toNatClampNeg))))
set_option maxHeartbeats 4000000 in
set_option maxRecDepth 100000 in
theorem w_Co_get_155 {p : Program} {l : Launch} {e : Env} {s : State} {m : MethodId} {args : Array Value} {below : List Frame} {meth : Method} {c : Code} {D : va_G} {A : Nat → Prop} {ad : Nat → Nat} {ca : Nat → ClassId} (o : Int64) (C0 : z_cx z_RCo b_Co_get 2 (some .long) D (z_Kt ca) A p s m args meth c) (q : z_Sg) (t0 : Int64) (h : k_Co_get_155 t0 q = some o) : ∀ (H : Heap) (locs : List Loc) (ls : Array Slot), z_wd D (z_K ad ca q) A s H locs → lv_has ls 2 [] → W p l e (z_rm 0 0) s m args below meth c H locs 0 0 (z_ql below D (z_Kt ca) (z_K ad ca q) A s args o) (F0 m 155 ls [.long t0]) := by
  obtain ⟨hx, hb, hr, hlk, hml, hown, hts, hK, hA⟩ := id C0
  intro H locs ls hw hl
  have ho := Option.some.inj h
  subst ho
  exact z_rtl C0 hw d_Co_get_155
set_option maxHeartbeats 4000000 in
set_option maxRecDepth 100000 in
theorem w_Co_get_20 {p : Program} {l : Launch} {e : Env} {s : State} {m : MethodId} {args : Array Value} {below : List Frame} {meth : Method} {c : Code} {D : va_G} {A : Nat → Prop} {ad : Nat → Nat} {ca : Nat → ClassId} (o : Int64) (C0 : z_cx z_RCo b_Co_get 2 (some .long) D (z_Kt ca) A p s m args meth c) (q : z_Sg) (x1 : Int32) (h : k_Co_get_20 x1 q = some o) : ∀ (H : Heap) (locs : List Loc) (ls : Array Slot), z_wd D (z_K ad ca q) A s H locs → lv_has ls 2 [(0, .ref (ad 0)), (1, .int x1)] → W p l e (z_rm 0 0) s m args below meth c H locs 0 0 (z_ql below D (z_Kt ca) (z_K ad ca q) A s args o) (F0 m 20 ls []) := by
  obtain ⟨hx, hb, hr, hlk, hml, hown, hts, hK, hA⟩ := id C0
  intro H locs ls hw hl
  refine lv_iload_n hx hb d_Co_get_20 rfl (lv_at hl 1 rfl) ?_
  by_cases c2 : x1 = (16 : Int32)
  · have h := ok_t h c2
    refine lv_tableIn (off := 51) (tgt := 72) hx hb d_Co_get_21 (by rw [c2]; decide) (by rw [c2]; decide) (by rw [c2]; rfl) (by decide) ?_
    refine lv_aload_n hx hb d_Co_get_72 rfl (lv_at hl 0 rfl) ?_
    refine gfK_0_state C0 hw fl_Co_12 d_Co_get_73 ?_
    refine gfK_1_next C0 hw fl_Co_108 d_Co_get_76 ?_
    have ho := Option.some.inj h
    subst ho
    exact z_rtl C0 hw d_Co_get_79
  have h := ok_f h c2
  by_cases c3 : x1 = (17 : Int32)
  · have h := ok_t h c3
    refine lv_tableIn (off := 59) (tgt := 80) hx hb d_Co_get_21 (by rw [c3]; decide) (by rw [c3]; decide) (by rw [c3]; rfl) (by decide) ?_
    refine lv_aload_n hx hb d_Co_get_80 rfl (lv_at hl 0 rfl) ?_
    refine gfK_0_state C0 hw fl_Co_12 d_Co_get_81 ?_
    refine gfK_1_table C0 hw fl_Co_112 d_Co_get_84 ?_
    have ho := Option.some.inj h
    subst ho
    exact z_rtl C0 hw d_Co_get_87
  have h := ok_f h c3
  by_cases c4 : x1 = (18 : Int32)
  · have h := ok_t h c4
    refine lv_tableIn (off := 67) (tgt := 88) hx hb d_Co_get_21 (by rw [c4]; decide) (by rw [c4]; decide) (by rw [c4]; rfl) (by decide) ?_
    refine lv_aload_n hx hb d_Co_get_88 rfl (lv_at hl 0 rfl) ?_
    refine gfK_0_state C0 hw fl_Co_12 d_Co_get_89 ?_
    refine gfK_1_entry C0 hw fl_Co_115 d_Co_get_92 ?_
    have ho := Option.some.inj h
    subst ho
    exact z_rtl C0 hw d_Co_get_95
  have h := ok_f h c4
  by_cases c5 : x1 = (19 : Int32)
  · have h := ok_t h c5
    refine lv_tableIn (off := 75) (tgt := 96) hx hb d_Co_get_21 (by rw [c5]; decide) (by rw [c5]; decide) (by rw [c5]; rfl) (by decide) ?_
    refine lv_aload_n hx hb d_Co_get_96 rfl (lv_at hl 0 rfl) ?_
    refine gfK_0_state C0 hw fl_Co_12 d_Co_get_97 ?_
    refine gfK_1_mask C0 hw fl_Co_118 d_Co_get_100 ?_
    have ho := Option.some.inj h
    subst ho
    exact z_rtl C0 hw d_Co_get_103
  have h := ok_f h c5
  by_cases c6 : x1 = (20 : Int32)
  · have h := ok_t h c6
    refine lv_tableIn (off := 83) (tgt := 104) hx hb d_Co_get_21 (by rw [c6]; decide) (by rw [c6]; decide) (by rw [c6]; rfl) (by decide) ?_
    refine lv_aload_n hx hb d_Co_get_104 rfl (lv_at hl 0 rfl) ?_
    refine gfK_0_state C0 hw fl_Co_12 d_Co_get_105 ?_
    refine gfK_1_flags C0 hw fl_Co_121 d_Co_get_108 ?_
    refine lv_i2l hx hb d_Co_get_111 rfl ?_
    have ho := Option.some.inj h
    subst ho
    exact z_rtl C0 hw d_Co_get_112
  have h := ok_f h c6
  by_cases c7 : x1 = (21 : Int32)
  · have h := ok_t h c7
    refine lv_tableIn (off := 92) (tgt := 113) hx hb d_Co_get_21 (by rw [c7]; decide) (by rw [c7]; decide) (by rw [c7]; rfl) (by decide) ?_
    refine lv_aload_n hx hb d_Co_get_113 rfl (lv_at hl 0 rfl) ?_
    refine gfK_0_state C0 hw fl_Co_12 d_Co_get_114 ?_
    refine gfK_1_undefined C0 hw fl_Co_125 d_Co_get_117 ?_
    have ho := Option.some.inj h
    subst ho
    exact z_rtl C0 hw d_Co_get_120
  have h := ok_f h c7
  by_cases c8 : x1 = (22 : Int32)
  · have h := ok_t h c8
    refine lv_tableIn (off := 100) (tgt := 121) hx hb d_Co_get_21 (by rw [c8]; decide) (by rw [c8]; decide) (by rw [c8]; rfl) (by decide) ?_
    refine lv_aload_n hx hb d_Co_get_121 rfl (lv_at hl 0 rfl) ?_
    refine gfK_0_state C0 hw fl_Co_12 d_Co_get_122 ?_
    refine gfK_1_fault C0 hw fl_Co_128 d_Co_get_125 ?_
    have ho := Option.some.inj h
    subst ho
    exact z_rtl C0 hw d_Co_get_128
  have h := ok_f h c8
  by_cases c9 : x1 = (23 : Int32)
  · have h := ok_t h c9
    refine lv_tableIn (off := 108) (tgt := 129) hx hb d_Co_get_21 (by rw [c9]; decide) (by rw [c9]; decide) (by rw [c9]; rfl) (by decide) ?_
    refine lv_aload_n hx hb d_Co_get_129 rfl (lv_at hl 0 rfl) ?_
    refine gfK_0_state C0 hw fl_Co_12 d_Co_get_130 ?_
    refine gfK_1_code C0 hw fl_Co_131 d_Co_get_133 ?_
    refine lv_i2l hx hb d_Co_get_136 rfl ?_
    have ho := Option.some.inj h
    subst ho
    exact z_rtl C0 hw d_Co_get_137
  have h := ok_f h c9
  by_cases c10 : x1 = (24 : Int32)
  · have h := ok_t h c10
    refine lv_tableIn (off := 117) (tgt := 138) hx hb d_Co_get_21 (by rw [c10]; decide) (by rw [c10]; decide) (by rw [c10]; rfl) (by decide) ?_
    refine lv_aload_n hx hb d_Co_get_138 rfl (lv_at hl 0 rfl) ?_
    refine gfK_0_state C0 hw fl_Co_12 d_Co_get_139 ?_
    refine gfK_1_user C0 hw fl_Co_134 d_Co_get_142 ?_
    refine lv_if_eq (tgt := 154) hx hb d_Co_get_145 (by decide) (fun c11 => ?_) (fun c11 => ?_)
    · have h := ok_t h c11
      refine lv_lconst (v := (0 : Int64)) hx hb d_Co_get_154 (by decide) ?_
      exact w_Co_get_155 o C0 q (0 : Int64) h H locs ls hw (lv_sub hl [] rfl)
    · have h := ok_f h c11
      refine lv_ldc2 (own := z_RCo) hx hb hown (hts _ kl_Co_138) d_Co_get_148 ?_
      refine lv_goto (tgt := 155) hx hb d_Co_get_151 (by decide) ?_
      exact w_Co_get_155 o C0 q (3 : Int64) h H locs ls hw (lv_sub hl [] rfl)
  have h := ok_f h c10
  refine lv_tableOut (tgt := 156) hx hb d_Co_get_21 (by have zc2 := lv_neT c2 (a := 16) rfl; have zc3 := lv_neT c3 (a := 17) rfl; have zc4 := lv_neT c4 (a := 18) rfl; have zc5 := lv_neT c5 (a := 19) rfl; have zc6 := lv_neT c6 (a := 20) rfl; have zc7 := lv_neT c7 (a := 21) rfl; have zc8 := lv_neT c8 (a := 22) rfl; have zc9 := lv_neT c9 (a := 23) rfl; have zc10 := lv_neT c10 (a := 24) rfl; omega) (by decide) ?_
  refine lv_lconst (v := (0 : Int64)) hx hb d_Co_get_156 (by decide) ?_
  have ho := Option.some.inj h
  subst ho
  exact z_rtl C0 hw d_Co_get_157
set_option maxHeartbeats 4000000 in
set_option maxRecDepth 100000 in
theorem c_Co_get {l : Launch} {D : va_G} {ad : Nat → Nat} {ca : Nat → ClassId} (x1 : Int32) (q : z_Sg) (o : Int64) (h : f_Co_get x1 q = some o) : z_cl l y_Co_get b_Co_get 2 (some .long) 0 0 D (z_Kt ca) (z_K ad ca q) (z_K ad ca q) [.ref (ad 0), .int x1] o := by
  refine z_cl_of (own := z_RCo) (by decide) rfl ?_
  intro p e s m below meth c A C0 hw
  obtain ⟨hx, hb, hr, hlk, hml, hown, hts, hK, hA⟩ := id C0
  generalize hH : s.heap = H at hw ⊢
  generalize hlo : ([] : List Loc) = locs at hw ⊢
  refine z_entry (lv := [(0, .ref (ad 0)), (1, .int x1)]) (Nat.le_of_ble_eq_true rfl) rfl (fun ls hl => ?_)
  unfold f_Co_get at h
  refine lv_iload_n hx hb d_Co_get_0 rfl (lv_at hl 1 rfl) ?_
  refine lv_if_lt (tgt := 20) hx hb d_Co_get_1 (by decide) (fun c1 => ?_) (fun c1 => ?_)
  · have h := ok_t h c1
    exact w_Co_get_20 o C0 q x1 h H locs ls hw (lv_sub hl [0, 1] rfl)
  · have h := ok_f h c1
    refine lv_iload_n hx hb d_Co_get_4 rfl (lv_at hl 1 rfl) ?_
    refine lv_bipush (v := (16 : Int32)) hx hb d_Co_get_5 (by decide) ?_
    refine lv_icmp_ge (tgt := 20) hx hb d_Co_get_7 (by decide) (fun c12 => ?_) (fun c12 => ?_)
    · have h := ok_t h c12
      exact w_Co_get_20 o C0 q x1 h H locs ls hw (lv_sub hl [0, 1] rfl)
    · have h := ok_f h c12
      refine lv_aload_n hx hb d_Co_get_10 rfl (lv_at hl 0 rfl) ?_
      refine gfK_0_state C0 hw fl_Co_12 d_Co_get_11 ?_
      refine gfK_1_registers C0 hw fl_Co_104 d_Co_get_14 ?_
      refine lv_iload_n hx hb d_Co_get_17 rfl (lv_at hl 1 rfl) ?_
      obtain ⟨b13, h⟩ := ok_g h
      refine alK_2 C0 hw b13 d_Co_get_18 ?_
      have ho := Option.some.inj h
      subst ho
      exact z_rtl C0 hw d_Co_get_19
def f_Co_level (x1 : Int32) (q : z_Sg) : Option z_Sg :=
  z_gd (z_bo x1) (z_nm (z_sI q 2 x1) (fun q2 => some q2))
set_option maxHeartbeats 4000000 in
set_option maxRecDepth 100000 in
theorem c_Co_level {l : Launch} {D : va_G} {ad : Nat → Nat} {ca : Nat → ClassId} (x1 : Int32) (q : z_Sg) (o : z_Sg) (h : f_Co_level x1 q = some o) : z_cv l y_Co_level b_Co_level 2 none 0 0 D (z_Kt ca) (z_K ad ca q) (z_K ad ca o) [.ref (ad 0), .int x1] := by
  refine z_cv_of (own := z_RCo) (by decide) rfl ?_
  intro p e s m below meth c A C0 hw
  obtain ⟨hx, hb, hr, hlk, hml, hown, hts, hK, hA⟩ := id C0
  generalize hH : s.heap = H at hw ⊢
  generalize hlo : ([] : List Loc) = locs at hw ⊢
  refine z_entry (lv := [(0, .ref (ad 0)), (1, .int x1)]) (Nat.le_of_ble_eq_true rfl) rfl (fun ls hl => ?_)
  unfold f_Co_level at h
  refine lv_aload_n hx hb d_Co_level_0 rfl (lv_at hl 0 rfl) ?_
  refine gfK_0_state C0 hw fl_Co_12 d_Co_level_1 ?_
  refine lv_iload_n hx hb d_Co_level_4 rfl (lv_at hl 1 rfl) ?_
  obtain ⟨b1, h⟩ := ok_G h
  refine pfK_1_user C0 hw b1 fl_Co_134 d_Co_level_5 (fun H locs hw => ?_)
  obtain ⟨q2, eq2, h⟩ := ok_n h
  rw [← eq2] at hw
  have ho := Option.some.inj h
  subst ho
  exact z_rtv C0 hw d_Co_level_8
def k_Pa_isWrong_24 (t0 : Int32) (q : z_Sg) : Option Int32 :=
  z_gd (z_bo t0) (some t0)
def k_Pa_isWrong_23 (q : z_Sg) : Option Int32 :=
  k_Pa_isWrong_24 (0 : Int32) q
def f_Pa_isWrong (x0 : Int64) (q : z_Sg) : Option Int32 :=
  z_nm ((z_lshr x0 (47 : Int32))) (fun n1 => if n1 = (0 : Int64) then (k_Pa_isWrong_23 q) else (if n1 = (-1 : Int64) then (k_Pa_isWrong_23 q) else (k_Pa_isWrong_24 (1 : Int32) q)))
set_option maxHeartbeats 4000000 in
set_option maxRecDepth 100000 in
theorem w_Pa_isWrong_24 {p : Program} {l : Launch} {e : Env} {s : State} {m : MethodId} {args : Array Value} {below : List Frame} {meth : Method} {c : Code} {D : va_G} {A : Nat → Prop} {ad : Nat → Nat} {ca : Nat → ClassId} (o : Int32) (C0 : z_cx z_RPa b_Pa_isWrong 4 (some .boolean) D (z_Kt ca) A p s m args meth c) (q : z_Sg) (t0 : Int32) (h : k_Pa_isWrong_24 t0 q = some o) : ∀ (H : Heap) (locs : List Loc) (ls : Array Slot), z_wd D (z_K ad ca q) A s H locs → lv_has ls 4 [] → W p l e (z_rm 0 0) s m args below meth c H locs 0 0 (z_qi below D (z_Kt ca) (z_K ad ca q) A s args o) (F0 m 24 ls [.int t0]) := by
  obtain ⟨hx, hb, hr, hlk, hml, hown, hts, hK, hA⟩ := id C0
  intro H locs ls hw hl
  obtain ⟨b3, h⟩ := ok_G h
  have ho := Option.some.inj h
  subst ho
  exact z_rtz C0 hw (z_bo_n b3) d_Pa_isWrong_24
set_option maxHeartbeats 4000000 in
set_option maxRecDepth 100000 in
theorem w_Pa_isWrong_23 {p : Program} {l : Launch} {e : Env} {s : State} {m : MethodId} {args : Array Value} {below : List Frame} {meth : Method} {c : Code} {D : va_G} {A : Nat → Prop} {ad : Nat → Nat} {ca : Nat → ClassId} (o : Int32) (C0 : z_cx z_RPa b_Pa_isWrong 4 (some .boolean) D (z_Kt ca) A p s m args meth c) (q : z_Sg) (h : k_Pa_isWrong_23 q = some o) : ∀ (H : Heap) (locs : List Loc) (ls : Array Slot), z_wd D (z_K ad ca q) A s H locs → lv_has ls 4 [] → W p l e (z_rm 0 0) s m args below meth c H locs 0 0 (z_qi below D (z_Kt ca) (z_K ad ca q) A s args o) (F0 m 23 ls []) := by
  obtain ⟨hx, hb, hr, hlk, hml, hown, hts, hK, hA⟩ := id C0
  intro H locs ls hw hl
  refine lv_iconst (v := (0 : Int32)) hx hb d_Pa_isWrong_23 (by decide) ?_
  exact w_Pa_isWrong_24 o C0 q (0 : Int32) h H locs ls hw (lv_sub hl [] rfl)
set_option maxHeartbeats 4000000 in
set_option maxRecDepth 100000 in
theorem c_Pa_isWrong {l : Launch} {D : va_G} {ad : Nat → Nat} {ca : Nat → ClassId} (x0 : Int64) (q : z_Sg) (o : Int32) (h : f_Pa_isWrong x0 q = some o) : z_ci l y_Pa_isWrong b_Pa_isWrong 4 (some .boolean) 0 0 D (z_Kt ca) (z_K ad ca q) (z_K ad ca q) [.long x0] o := by
  refine z_ci_of (own := z_RPa) (by decide) rfl ?_
  intro p e s m below meth c A C0 hw
  obtain ⟨hx, hb, hr, hlk, hml, hown, hts, hK, hA⟩ := id C0
  generalize hH : s.heap = H at hw ⊢
  generalize hlo : ([] : List Loc) = locs at hw ⊢
  refine z_entry (lv := [(0, .long x0)]) (Nat.le_of_ble_eq_true rfl) rfl (fun ls hl => ?_)
  unfold f_Pa_isWrong at h
  refine lv_lload_n hx hb d_Pa_isWrong_0 rfl (lv_at hl 0 rfl) ?_
  refine lv_bipush (v := (47 : Int32)) hx hb d_Pa_isWrong_1 (by decide) ?_
  refine lv_lshr (v := (z_lshr x0 (47 : Int32))) hx hb d_Pa_isWrong_3 rfl ?_
  obtain ⟨n1, en1, h⟩ := ok_n h
  refine z_tl en1 ?_
  refine lv_lstore_n (lv' := [(2, .long n1), (0, .long x0)]) hx hb d_Pa_isWrong_4 rfl hl (by decide) rfl (fun ls hl => ?_)
  refine lv_lload_n hx hb d_Pa_isWrong_5 rfl (lv_at hl 0 rfl) ?_
  refine lv_lconst (v := (0 : Int64)) hx hb d_Pa_isWrong_6 (by decide) ?_
  refine W.lcmp hx hb d_Pa_isWrong_7 ?_
  refine lv_if_eq (tgt := 23) hx hb d_Pa_isWrong_8 (by decide) (fun c2 => ?_) (fun c2 => ?_)
  · have h := ok_t h ((lg_cmp_eq _ _).mp c2)
    exact w_Pa_isWrong_23 o C0 q h H locs ls hw (lv_sub hl [] rfl)
  · have h := ok_f h (fun z => c2 ((lg_cmp_eq _ _).mpr z))
    refine lv_lload_n hx hb d_Pa_isWrong_11 rfl (lv_at hl 0 rfl) ?_
    refine lv_ldc2 (own := z_RPa) hx hb hown (hts _ kl_Pa_25) d_Pa_isWrong_12 ?_
    refine W.lcmp hx hb d_Pa_isWrong_15 ?_
    refine lv_if_eq (tgt := 23) hx hb d_Pa_isWrong_16 (by decide) (fun c4 => ?_) (fun c4 => ?_)
    · have h := ok_t h ((lg_cmp_eq _ _).mp c4)
      exact w_Pa_isWrong_23 o C0 q h H locs ls hw (lv_sub hl [] rfl)
    · have h := ok_f h (fun z => c4 ((lg_cmp_eq _ _).mpr z))
      refine lv_iconst (v := (1 : Int32)) hx hb d_Pa_isWrong_19 (by decide) ?_
      refine lv_goto (tgt := 24) hx hb d_Pa_isWrong_20 (by decide) ?_
      exact w_Pa_isWrong_24 o C0 q (1 : Int32) h H locs ls hw (lv_sub hl [] rfl)
def k_Pa_isForbidden_53 (t0 : Int32) (q : z_Sg) : Option Int32 :=
  z_gd (z_bo t0) (some t0)
def k_Pa_isForbidden_52 (q : z_Sg) : Option Int32 :=
  k_Pa_isForbidden_53 (0 : Int32) q
def k_Pa_isForbidden_48 (q : z_Sg) : Option Int32 :=
  k_Pa_isForbidden_53 (1 : Int32) q
def k_Pa_isForbidden_36 (x3 : Int64) (x5 : Int32) (q : z_Sg) : Option Int32 :=
  if x5 = (2 : Int32) then (if (0 : Int64) ≤ x3 then (k_Pa_isForbidden_52 q) else (k_Pa_isForbidden_48 q)) else (k_Pa_isForbidden_52 q)
def k_Pa_isForbidden_16 (x1 : Int64) (x3 : Int64) (x5 : Int32) (q : z_Sg) : Option Int32 :=
  if (z_gI q 2) = 0 then (k_Pa_isForbidden_36 x3 x5 q) else (if (x1 &&& (4 : Int64)) = (0 : Int64) then (k_Pa_isForbidden_48 q) else (k_Pa_isForbidden_36 x3 x5 q))
def f_Pa_isForbidden (x1 : Int64) (x3 : Int64) (x5 : Int32) (q : z_Sg) : Option Int32 :=
  if x5 = (1 : Int32) then (if (x1 &&& (2 : Int64)) = (0 : Int64) then (k_Pa_isForbidden_48 q) else (k_Pa_isForbidden_16 x1 x3 x5 q)) else (k_Pa_isForbidden_16 x1 x3 x5 q)
set_option maxHeartbeats 4000000 in
set_option maxRecDepth 100000 in
theorem w_Pa_isForbidden_53 {p : Program} {l : Launch} {e : Env} {s : State} {m : MethodId} {args : Array Value} {below : List Frame} {meth : Method} {c : Code} {D : va_G} {A : Nat → Prop} {ad : Nat → Nat} {ca : Nat → ClassId} (o : Int32) (C0 : z_cx z_RPa b_Pa_isForbidden 6 (some .boolean) D (z_Kt ca) A p s m args meth c) (q : z_Sg) (t0 : Int32) (h : k_Pa_isForbidden_53 t0 q = some o) : ∀ (H : Heap) (locs : List Loc) (ls : Array Slot), z_wd D (z_K ad ca q) A s H locs → lv_has ls 6 [] → W p l e (z_rm 0 0) s m args below meth c H locs 0 0 (z_qi below D (z_Kt ca) (z_K ad ca q) A s args o) (F0 m 53 ls [.int t0]) := by
  obtain ⟨hx, hb, hr, hlk, hml, hown, hts, hK, hA⟩ := id C0
  intro H locs ls hw hl
  obtain ⟨b4, h⟩ := ok_G h
  have ho := Option.some.inj h
  subst ho
  exact z_rtz C0 hw (z_bo_n b4) d_Pa_isForbidden_53
set_option maxHeartbeats 4000000 in
set_option maxRecDepth 100000 in
theorem w_Pa_isForbidden_52 {p : Program} {l : Launch} {e : Env} {s : State} {m : MethodId} {args : Array Value} {below : List Frame} {meth : Method} {c : Code} {D : va_G} {A : Nat → Prop} {ad : Nat → Nat} {ca : Nat → ClassId} (o : Int32) (C0 : z_cx z_RPa b_Pa_isForbidden 6 (some .boolean) D (z_Kt ca) A p s m args meth c) (q : z_Sg) (h : k_Pa_isForbidden_52 q = some o) : ∀ (H : Heap) (locs : List Loc) (ls : Array Slot), z_wd D (z_K ad ca q) A s H locs → lv_has ls 6 [] → W p l e (z_rm 0 0) s m args below meth c H locs 0 0 (z_qi below D (z_Kt ca) (z_K ad ca q) A s args o) (F0 m 52 ls []) := by
  obtain ⟨hx, hb, hr, hlk, hml, hown, hts, hK, hA⟩ := id C0
  intro H locs ls hw hl
  refine lv_iconst (v := (0 : Int32)) hx hb d_Pa_isForbidden_52 (by decide) ?_
  exact w_Pa_isForbidden_53 o C0 q (0 : Int32) h H locs ls hw (lv_sub hl [] rfl)
set_option maxHeartbeats 4000000 in
set_option maxRecDepth 100000 in
theorem w_Pa_isForbidden_48 {p : Program} {l : Launch} {e : Env} {s : State} {m : MethodId} {args : Array Value} {below : List Frame} {meth : Method} {c : Code} {D : va_G} {A : Nat → Prop} {ad : Nat → Nat} {ca : Nat → ClassId} (o : Int32) (C0 : z_cx z_RPa b_Pa_isForbidden 6 (some .boolean) D (z_Kt ca) A p s m args meth c) (q : z_Sg) (h : k_Pa_isForbidden_48 q = some o) : ∀ (H : Heap) (locs : List Loc) (ls : Array Slot), z_wd D (z_K ad ca q) A s H locs → lv_has ls 6 [] → W p l e (z_rm 0 0) s m args below meth c H locs 0 0 (z_qi below D (z_Kt ca) (z_K ad ca q) A s args o) (F0 m 48 ls []) := by
  obtain ⟨hx, hb, hr, hlk, hml, hown, hts, hK, hA⟩ := id C0
  intro H locs ls hw hl
  refine lv_iconst (v := (1 : Int32)) hx hb d_Pa_isForbidden_48 (by decide) ?_
  refine lv_goto (tgt := 53) hx hb d_Pa_isForbidden_49 (by decide) ?_
  exact w_Pa_isForbidden_53 o C0 q (1 : Int32) h H locs ls hw (lv_sub hl [] rfl)
set_option maxHeartbeats 4000000 in
set_option maxRecDepth 100000 in
theorem w_Pa_isForbidden_36 {p : Program} {l : Launch} {e : Env} {s : State} {m : MethodId} {args : Array Value} {below : List Frame} {meth : Method} {c : Code} {D : va_G} {A : Nat → Prop} {ad : Nat → Nat} {ca : Nat → ClassId} (o : Int32) (C0 : z_cx z_RPa b_Pa_isForbidden 6 (some .boolean) D (z_Kt ca) A p s m args meth c) (q : z_Sg) (x3 : Int64) (x5 : Int32) (h : k_Pa_isForbidden_36 x3 x5 q = some o) : ∀ (H : Heap) (locs : List Loc) (ls : Array Slot), z_wd D (z_K ad ca q) A s H locs → lv_has ls 6 [(3, .long x3), (5, .int x5)] → W p l e (z_rm 0 0) s m args below meth c H locs 0 0 (z_qi below D (z_Kt ca) (z_K ad ca q) A s args o) (F0 m 36 ls []) := by
  obtain ⟨hx, hb, hr, hlk, hml, hown, hts, hK, hA⟩ := id C0
  intro H locs ls hw hl
  refine lv_iload hx hb d_Pa_isForbidden_36 (lv_at hl 1 rfl) ?_
  refine lv_iconst (v := (2 : Int32)) hx hb d_Pa_isForbidden_38 (by decide) ?_
  refine lv_icmp_ne (tgt := 52) hx hb d_Pa_isForbidden_39 (by decide) (fun c3 => ?_) (fun c3 => ?_)
  · have h := ok_f h c3
    exact w_Pa_isForbidden_52 o C0 q h H locs ls hw (lv_sub hl [] rfl)
  · have h := ok_t h c3
    refine lv_lload_n hx hb d_Pa_isForbidden_42 rfl (lv_at hl 0 rfl) ?_
    refine lv_lconst (v := (0 : Int64)) hx hb d_Pa_isForbidden_43 (by decide) ?_
    refine W.lcmp hx hb d_Pa_isForbidden_44 ?_
    refine lv_if_ge (tgt := 52) hx hb d_Pa_isForbidden_45 (by decide) (fun c5 => ?_) (fun c5 => ?_)
    · have h := ok_t h ((lg_cmp_ge _ _).mp c5)
      exact w_Pa_isForbidden_52 o C0 q h H locs ls hw (lv_sub hl [] rfl)
    · have h := ok_f h (fun z => c5 ((lg_cmp_ge _ _).mpr z))
      exact w_Pa_isForbidden_48 o C0 q h H locs ls hw (lv_sub hl [] rfl)
set_option maxHeartbeats 4000000 in
set_option maxRecDepth 100000 in
theorem w_Pa_isForbidden_16 {p : Program} {l : Launch} {e : Env} {s : State} {m : MethodId} {args : Array Value} {below : List Frame} {meth : Method} {c : Code} {D : va_G} {A : Nat → Prop} {ad : Nat → Nat} {ca : Nat → ClassId} (o : Int32) (C0 : z_cx z_RPa b_Pa_isForbidden 6 (some .boolean) D (z_Kt ca) A p s m args meth c) (q : z_Sg) (x1 : Int64) (x3 : Int64) (x5 : Int32) (h : k_Pa_isForbidden_16 x1 x3 x5 q = some o) : ∀ (H : Heap) (locs : List Loc) (ls : Array Slot), z_wd D (z_K ad ca q) A s H locs → lv_has ls 6 [(0, .ref (ad 3)), (1, .long x1), (3, .long x3), (5, .int x5)] → W p l e (z_rm 0 0) s m args below meth c H locs 0 0 (z_qi below D (z_Kt ca) (z_K ad ca q) A s args o) (F0 m 16 ls []) := by
  obtain ⟨hx, hb, hr, hlk, hml, hown, hts, hK, hA⟩ := id C0
  intro H locs ls hw hl
  refine lv_aload_n hx hb d_Pa_isForbidden_16 rfl (lv_at hl 0 rfl) ?_
  refine gfK_3_state C0 hw fl_Pa_15 d_Pa_isForbidden_17 ?_
  refine gfK_1_user C0 hw fl_Pa_63 d_Pa_isForbidden_20 ?_
  refine lv_if_eq (tgt := 36) hx hb d_Pa_isForbidden_23 (by decide) (fun c2 => ?_) (fun c2 => ?_)
  · have h := ok_t h c2
    exact w_Pa_isForbidden_36 o C0 q x3 x5 h H locs ls hw (lv_sub hl [2, 3] rfl)
  · have h := ok_f h c2
    refine lv_lload_n hx hb d_Pa_isForbidden_26 rfl (lv_at hl 1 rfl) ?_
    refine lv_ldc2 (own := z_RPa) hx hb hown (hts _ kl_Pa_67) d_Pa_isForbidden_27 ?_
    refine lv_land hx hb d_Pa_isForbidden_30 ?_
    refine lv_lconst (v := (0 : Int64)) hx hb d_Pa_isForbidden_31 (by decide) ?_
    refine W.lcmp hx hb d_Pa_isForbidden_32 ?_
    refine lv_if_eq (tgt := 48) hx hb d_Pa_isForbidden_33 (by decide) (fun c6 => ?_) (fun c6 => ?_)
    · have h := ok_t h ((lg_cmp_eq _ _).mp c6)
      exact w_Pa_isForbidden_48 o C0 q h H locs ls hw (lv_sub hl [] rfl)
    · have h := ok_f h (fun z => c6 ((lg_cmp_eq _ _).mpr z))
      exact w_Pa_isForbidden_36 o C0 q x3 x5 h H locs ls hw (lv_sub hl [2, 3] rfl)
set_option maxHeartbeats 4000000 in
set_option maxRecDepth 100000 in
theorem c_Pa_isForbidden {l : Launch} {D : va_G} {ad : Nat → Nat} {ca : Nat → ClassId} (x1 : Int64) (x3 : Int64) (x5 : Int32) (q : z_Sg) (o : Int32) (h : f_Pa_isForbidden x1 x3 x5 q = some o) : z_ci l y_Pa_isForbidden b_Pa_isForbidden 6 (some .boolean) 0 0 D (z_Kt ca) (z_K ad ca q) (z_K ad ca q) [.ref (ad 3), .long x1, .long x3, .int x5] o := by
  refine z_ci_of (own := z_RPa) (by decide) rfl ?_
  intro p e s m below meth c A C0 hw
  obtain ⟨hx, hb, hr, hlk, hml, hown, hts, hK, hA⟩ := id C0
  generalize hH : s.heap = H at hw ⊢
  generalize hlo : ([] : List Loc) = locs at hw ⊢
  refine z_entry (lv := [(0, .ref (ad 3)), (1, .long x1), (3, .long x3), (5, .int x5)]) (Nat.le_of_ble_eq_true rfl) rfl (fun ls hl => ?_)
  unfold f_Pa_isForbidden at h
  refine lv_iload hx hb d_Pa_isForbidden_0 (lv_at hl 3 rfl) ?_
  refine lv_iconst (v := (1 : Int32)) hx hb d_Pa_isForbidden_2 (by decide) ?_
  refine lv_icmp_ne (tgt := 16) hx hb d_Pa_isForbidden_3 (by decide) (fun c1 => ?_) (fun c1 => ?_)
  · have h := ok_f h c1
    exact w_Pa_isForbidden_16 o C0 q x1 x3 x5 h H locs ls hw (lv_sub hl [0, 1, 2, 3] rfl)
  · have h := ok_t h c1
    refine lv_lload_n hx hb d_Pa_isForbidden_6 rfl (lv_at hl 1 rfl) ?_
    refine lv_ldc2 (own := z_RPa) hx hb hown (hts _ kl_Pa_61) d_Pa_isForbidden_7 ?_
    refine lv_land hx hb d_Pa_isForbidden_10 ?_
    refine lv_lconst (v := (0 : Int64)) hx hb d_Pa_isForbidden_11 (by decide) ?_
    refine W.lcmp hx hb d_Pa_isForbidden_12 ?_
    refine lv_if_eq (tgt := 48) hx hb d_Pa_isForbidden_13 (by decide) (fun c7 => ?_) (fun c7 => ?_)
    · have h := ok_t h ((lg_cmp_eq _ _).mp c7)
      exact w_Pa_isForbidden_48 o C0 q h H locs ls hw (lv_sub hl [] rfl)
    · have h := ok_f h (fun z => c7 ((lg_cmp_eq _ _).mpr z))
      exact w_Pa_isForbidden_16 o C0 q x1 x3 x5 h H locs ls hw (lv_sub hl [0, 1, 2, 3] rfl)
def k_Pa_refused_50 (t0 : Int64) (t1 : Int64) (q : z_Sg) : Option Int64 :=
  some (t0 - t1)
def k_Pa_refused_23 (x1 : Int64) (t0 : Int64) (q : z_Sg) : Option Int64 :=
  if (z_gI q 2) = 0 then (k_Pa_refused_50 (((-2 : Int64) - x1) - t0) (0 : Int64) q) else (k_Pa_refused_50 (((-2 : Int64) - x1) - t0) (4 : Int64) q)
def f_Pa_refused (x1 : Int64) (x3 : Int32) (q : z_Sg) : Option Int64 :=
  if x3 = (1 : Int32) then (k_Pa_refused_23 x1 (2 : Int64) q) else (if x3 = (2 : Int32) then (k_Pa_refused_23 x1 (16 : Int64) q) else (k_Pa_refused_23 x1 (0 : Int64) q))
set_option maxHeartbeats 4000000 in
set_option maxRecDepth 100000 in
theorem w_Pa_refused_50 {p : Program} {l : Launch} {e : Env} {s : State} {m : MethodId} {args : Array Value} {below : List Frame} {meth : Method} {c : Code} {D : va_G} {A : Nat → Prop} {ad : Nat → Nat} {ca : Nat → ClassId} (o : Int64) (C0 : z_cx z_RPa b_Pa_refused 6 (some .long) D (z_Kt ca) A p s m args meth c) (q : z_Sg) (t0 : Int64) (t1 : Int64) (h : k_Pa_refused_50 t0 t1 q = some o) : ∀ (H : Heap) (locs : List Loc) (ls : Array Slot), z_wd D (z_K ad ca q) A s H locs → lv_has ls 6 [] → W p l e (z_rm 0 0) s m args below meth c H locs 0 0 (z_ql below D (z_Kt ca) (z_K ad ca q) A s args o) (F0 m 50 ls [.long t1, .long t0]) := by
  obtain ⟨hx, hb, hr, hlk, hml, hown, hts, hK, hA⟩ := id C0
  intro H locs ls hw hl
  refine lv_lsub hx hb d_Pa_refused_50 ?_
  have ho := Option.some.inj h
  subst ho
  exact z_rtl C0 hw d_Pa_refused_51
set_option maxHeartbeats 4000000 in
set_option maxRecDepth 100000 in
theorem w_Pa_refused_23 {p : Program} {l : Launch} {e : Env} {s : State} {m : MethodId} {args : Array Value} {below : List Frame} {meth : Method} {c : Code} {D : va_G} {A : Nat → Prop} {ad : Nat → Nat} {ca : Nat → ClassId} (o : Int64) (C0 : z_cx z_RPa b_Pa_refused 6 (some .long) D (z_Kt ca) A p s m args meth c) (q : z_Sg) (x1 : Int64) (t0 : Int64) (h : k_Pa_refused_23 x1 t0 q = some o) : ∀ (H : Heap) (locs : List Loc) (ls : Array Slot), z_wd D (z_K ad ca q) A s H locs → lv_has ls 6 [(0, .ref (ad 3)), (1, .long x1)] → W p l e (z_rm 0 0) s m args below meth c H locs 0 0 (z_ql below D (z_Kt ca) (z_K ad ca q) A s args o) (F0 m 23 ls [.long t0]) := by
  obtain ⟨hx, hb, hr, hlk, hml, hown, hts, hK, hA⟩ := id C0
  intro H locs ls hw hl
  refine lv_lstore (lv' := [(4, .long t0), (0, .ref (ad 3)), (1, .long x1)]) hx hb d_Pa_refused_23 hl (by decide) rfl (fun ls hl => ?_)
  refine lv_ldc2 (own := z_RPa) hx hb hown (hts _ kl_Pa_71) d_Pa_refused_25 ?_
  refine lv_lload_n hx hb d_Pa_refused_28 rfl (lv_at hl 2 rfl) ?_
  refine lv_lsub hx hb d_Pa_refused_29 ?_
  refine lv_lload hx hb d_Pa_refused_30 (lv_at hl 0 rfl) ?_
  refine lv_lsub hx hb d_Pa_refused_32 ?_
  refine lv_aload_n hx hb d_Pa_refused_33 rfl (lv_at hl 1 rfl) ?_
  refine gfK_3_state C0 hw fl_Pa_15 d_Pa_refused_34 ?_
  refine gfK_1_user C0 hw fl_Pa_63 d_Pa_refused_37 ?_
  refine lv_if_eq (tgt := 49) hx hb d_Pa_refused_40 (by decide) (fun c3 => ?_) (fun c3 => ?_)
  · have h := ok_t h c3
    refine lv_lconst (v := (0 : Int64)) hx hb d_Pa_refused_49 (by decide) ?_
    exact w_Pa_refused_50 o C0 q (((-2 : Int64) - x1) - t0) (0 : Int64) h H locs ls hw (lv_sub hl [] rfl)
  · have h := ok_f h c3
    refine lv_ldc2 (own := z_RPa) hx hb hown (hts _ kl_Pa_67) d_Pa_refused_43 ?_
    refine lv_goto (tgt := 50) hx hb d_Pa_refused_46 (by decide) ?_
    exact w_Pa_refused_50 o C0 q (((-2 : Int64) - x1) - t0) (4 : Int64) h H locs ls hw (lv_sub hl [] rfl)
set_option maxHeartbeats 4000000 in
set_option maxRecDepth 100000 in
theorem c_Pa_refused {l : Launch} {D : va_G} {ad : Nat → Nat} {ca : Nat → ClassId} (x1 : Int64) (x3 : Int32) (q : z_Sg) (o : Int64) (h : f_Pa_refused x1 x3 q = some o) : z_cl l y_Pa_refused b_Pa_refused 6 (some .long) 0 0 D (z_Kt ca) (z_K ad ca q) (z_K ad ca q) [.ref (ad 3), .long x1, .int x3] o := by
  refine z_cl_of (own := z_RPa) (by decide) rfl ?_
  intro p e s m below meth c A C0 hw
  obtain ⟨hx, hb, hr, hlk, hml, hown, hts, hK, hA⟩ := id C0
  generalize hH : s.heap = H at hw ⊢
  generalize hlo : ([] : List Loc) = locs at hw ⊢
  refine z_entry (lv := [(0, .ref (ad 3)), (1, .long x1), (3, .int x3)]) (Nat.le_of_ble_eq_true rfl) rfl (fun ls hl => ?_)
  unfold f_Pa_refused at h
  refine lv_iload_n hx hb d_Pa_refused_0 rfl (lv_at hl 2 rfl) ?_
  refine lv_iconst (v := (1 : Int32)) hx hb d_Pa_refused_1 (by decide) ?_
  refine lv_icmp_ne (tgt := 11) hx hb d_Pa_refused_2 (by decide) (fun c1 => ?_) (fun c1 => ?_)
  · have h := ok_f h c1
    refine lv_iload_n hx hb d_Pa_refused_11 rfl (lv_at hl 2 rfl) ?_
    refine lv_iconst (v := (2 : Int32)) hx hb d_Pa_refused_12 (by decide) ?_
    refine lv_icmp_ne (tgt := 22) hx hb d_Pa_refused_13 (by decide) (fun c2 => ?_) (fun c2 => ?_)
    · have h := ok_f h c2
      refine lv_lconst (v := (0 : Int64)) hx hb d_Pa_refused_22 (by decide) ?_
      exact w_Pa_refused_23 o C0 q x1 (0 : Int64) h H locs ls hw (lv_sub hl [0, 1] rfl)
    · have h := ok_t h c2
      refine lv_ldc2 (own := z_RPa) hx hb hown (hts _ kl_Pa_69) d_Pa_refused_16 ?_
      refine lv_goto (tgt := 23) hx hb d_Pa_refused_19 (by decide) ?_
      exact w_Pa_refused_23 o C0 q x1 (16 : Int64) h H locs ls hw (lv_sub hl [0, 1] rfl)
  · have h := ok_t h c1
    refine lv_ldc2 (own := z_RPa) hx hb hown (hts _ kl_Pa_61) d_Pa_refused_5 ?_
    refine lv_goto (tgt := 23) hx hb d_Pa_refused_8 (by decide) ?_
    exact w_Pa_refused_23 o C0 q x1 (2 : Int64) h H locs ls hw (lv_sub hl [0, 1] rfl)
def k_Pa_locate_193 (x1 : Int64) (x3 : Int32) (x4 : Int64) (x6 : Int64) (x8 : Int64) (x10 : Int64) (q : z_Sg) : Option Int64 :=
  (f_Pa_isForbidden x6 x8 x3 q).bind (fun r5 => if r5 = 0 then (some (x4 ||| (x1 &&& x10))) else ((f_Pa_refused (1 : Int64) x3 q).bind (fun r7 => some r7)))
def k_Pa_locate_187 (ih41 : Int64 × Int32 × Int64 × Int64 × Int64 × Int64 × Int32 → Option Int64) (x1 : Int64) (x3 : Int32) (x4 : Int64) (x6 : Int64) (x8 : Int64) (x10 : Int64) (x12 : Int32) (q : z_Sg) : Option Int64 :=
  z_nm (x12 + (-9 : Int32)) (fun n15 => ih41 (x1, x3, x4, x6, x8, x10, n15))
def k_Pa_locate_162 (x3 : Int32) (q : z_Sg) : Option Int64 :=
  (f_Pa_refused (9 : Int64) x3 q).bind (fun r18 => some r18)
def k_Pa_locate_86 (ih41 : Int64 × Int32 × Int64 × Int64 × Int64 × Int64 × Int32 → Option Int64) (x1 : Int64) (x3 : Int32) (x6 : Int64) (x8 : Int64) (x10 : Int64) (x12 : Int32) (t0 : Int64) (q : z_Sg) : Option Int64 :=
  z_nm ((x6 &&& t0)) (fun n10 => z_nm ((x8 ||| t0)) (fun n11 => if (t0 &&& (1 : Int64)) = (0 : Int64) then ((f_Pa_refused (0 : Int64) x3 q).bind (fun r21 => some r21)) else (z_nm ((t0 &&& (4503599627366400 : Int64))) (fun n13 => if x12 ≤ (12 : Int32) then (k_Pa_locate_187 ih41 x1 x3 n13 n10 n11 x10 x12 q) else (if (t0 &&& (128 : Int64)) = (0 : Int64) then (k_Pa_locate_187 ih41 x1 x3 n13 n10 n11 x10 x12 q) else (if (21 : Int32) < x12 then (k_Pa_locate_162 x3 q) else (if (t0 &&& (2088960 : Int64)) = (0 : Int64) then (z_nm ((t0 &&& (4503599625273344 : Int64))) (fun n20 => k_Pa_locate_193 x1 x3 n20 n10 n11 (2097151 : Int64) q)) else (k_Pa_locate_162 x3 q))))))))
def kb_Pa_locate_41 (ih41 : Int64 × Int32 × Int64 × Int64 × Int64 × Int64 × Int32 → Option Int64) (x1 : Int64) (x3 : Int32) (x4 : Int64) (x6 : Int64) (x8 : Int64) (x10 : Int64) (x12 : Int32) (q : z_Sg) : Option Int64 :=
  if x12 < (12 : Int32) then (k_Pa_locate_193 x1 x3 x4 x6 x8 x10 q) else (z_nm ((x4 + (z_lshl ((z_lushr x1 x12) &&& (511 : Int64)) (3 : Int32)))) (fun n8 => if (32768 : Int64) ≤ n8 then (k_Pa_locate_86 ih41 x1 x3 x6 x8 x10 x12 (0 : Int64) q) else (if z_bad ((z_lushr n8 (3 : Int32)).toInt32) 4096 then none else (k_Pa_locate_86 ih41 x1 x3 x6 x8 x10 x12 (z_gM q 1 ((z_lushr n8 (3 : Int32)).toInt32).toNatClampNeg) q))))
def k_Pa_locate_41 (x1 : Int64) (x3 : Int32) (x4 : Int64) (x6 : Int64) (x8 : Int64) (x10 : Int64) (x12 : Int32) (q : z_Sg) : Option Int64 := z_lo (fun ih41 a => kb_Pa_locate_41 ih41 a.1 a.2.1 a.2.2.1 a.2.2.2.1 a.2.2.2.2.1 a.2.2.2.2.2.1 a.2.2.2.2.2.2 q) 2000 (x1, x3, x4, x6, x8, x10, x12)
def f_Pa_locate (x1 : Int64) (x3 : Int32) (q : z_Sg) : Option Int64 :=
  (f_Pa_isWrong x1 q).bind (fun r1 => if r1 = 0 then (z_nm (((z_gL q 1) &&& (4503599627366400 : Int64))) (fun n3 => k_Pa_locate_41 x1 x3 n3 (-1 : Int64) (0 : Int64) (4095 : Int64) (39 : Int32) q)) else (some (-1 : Int64)))
set_option maxHeartbeats 4000000 in
set_option maxRecDepth 100000 in
theorem w_Pa_locate_193 {p : Program} {l : Launch} {e : Env} {s : State} {m : MethodId} {args : Array Value} {below : List Frame} {meth : Method} {c : Code} {D : va_G} {A : Nat → Prop} {ad : Nat → Nat} {ca : Nat → ClassId} (o : Int64) (C0 : z_cx z_RPa b_Pa_locate 17 (some .long) D (z_Kt ca) A p s m args meth c) (q : z_Sg) (x1 : Int64) (x3 : Int32) (x4 : Int64) (x6 : Int64) (x8 : Int64) (x10 : Int64) (h : k_Pa_locate_193 x1 x3 x4 x6 x8 x10 q = some o) : ∀ (H : Heap) (locs : List Loc) (ls : Array Slot), z_wd D (z_K ad ca q) A s H locs → lv_has ls 17 [(0, .ref (ad 3)), (1, .long x1), (3, .int x3), (4, .long x4), (6, .long x6), (8, .long x8), (10, .long x10)] → W p l e (z_rm 1 25) s m args below meth c H locs 0 0 (z_ql below D (z_Kt ca) (z_K ad ca q) A s args o) (F0 m 193 ls []) := by
  obtain ⟨hx, hb, hr, hlk, hml, hown, hts, hK, hA⟩ := id C0
  intro H locs ls hw hl
  refine lv_aload_n hx hb d_Pa_locate_193 rfl (lv_at hl 0 rfl) ?_
  refine lv_lload hx hb d_Pa_locate_194 (lv_at hl 4 rfl) ?_
  refine lv_lload hx hb d_Pa_locate_196 (lv_at hl 5 rfl) ?_
  refine lv_iload_n hx hb d_Pa_locate_198 rfl (lv_at hl 2 rfl) ?_
  obtain ⟨r5, er5, h⟩ := ok_b h
  refine z_vi (rest := []) C0 hw (c_Pa_isForbidden x6 x8 x3 q r5 er5) mw_Pa_isForbidden ml_Pa_57 3 rfl ⟨Nat.le_of_ble_eq_true rfl, Nat.le_of_ble_eq_true rfl⟩ ⟨Nat.le_refl 0, Nat.le_refl 0⟩ rfl hl.1 rfl (Nat.le_of_ble_eq_true rfl) d_Pa_locate_199 (fun H locs hw => ?_)
  refine lv_if_eq (tgt := 212) hx hb d_Pa_locate_202 (by decide) (fun c6 => ?_) (fun c6 => ?_)
  · have h := ok_t h c6
    refine lv_lload hx hb d_Pa_locate_212 (lv_at hl 3 rfl) ?_
    refine lv_lload_n hx hb d_Pa_locate_214 rfl (lv_at hl 1 rfl) ?_
    refine lv_lload hx hb d_Pa_locate_215 (lv_at hl 6 rfl) ?_
    refine lv_land hx hb d_Pa_locate_217 ?_
    refine lv_lor hx hb d_Pa_locate_218 ?_
    have ho := Option.some.inj h
    subst ho
    exact z_rtl C0 hw d_Pa_locate_219
  · have h := ok_f h c6
    refine lv_aload_n hx hb d_Pa_locate_205 rfl (lv_at hl 0 rfl) ?_
    refine lv_lconst (v := (1 : Int64)) hx hb d_Pa_locate_206 (by decide) ?_
    refine lv_iload_n hx hb d_Pa_locate_207 rfl (lv_at hl 2 rfl) ?_
    obtain ⟨r7, er7, h⟩ := ok_b h
    refine z_vl (rest := []) C0 hw (c_Pa_refused (1 : Int64) x3 q r7 er7) mw_Pa_refused ml_Pa_43 3 rfl ⟨Nat.le_of_ble_eq_true rfl, Nat.le_of_ble_eq_true rfl⟩ ⟨Nat.le_refl 0, Nat.le_refl 0⟩ rfl hl.1 rfl (Nat.le_of_ble_eq_true rfl) d_Pa_locate_208 (fun H locs hw => ?_)
    have ho := Option.some.inj h
    subst ho
    exact z_rtl C0 hw d_Pa_locate_211
set_option maxHeartbeats 4000000 in
set_option maxRecDepth 100000 in
theorem w_Pa_locate_187 {p : Program} {l : Launch} {e : Env} {s : State} {m : MethodId} {args : Array Value} {below : List Frame} {meth : Method} {c : Code} {D : va_G} {A : Nat → Prop} {ad : Nat → Nat} {ca : Nat → ClassId} (o : Int64) (C0 : z_cx z_RPa b_Pa_locate 17 (some .long) D (z_Kt ca) A p s m args meth c) (q : z_Sg) (ih41 : Int64 × Int32 × Int64 × Int64 × Int64 × Int64 × Int32 → Option Int64) (hi41 : ∀ a : Int64 × Int32 × Int64 × Int64 × Int64 × Int64 × Int32, ih41 a = some o → ∀ (H : Heap) (locs : List Loc) (ls : Array Slot), z_wd D (z_K ad ca q) A s H locs → lv_has ls 17 [(0, .ref (ad 3)), (1, .long a.1), (3, .int a.2.1), (4, .long a.2.2.1), (6, .long a.2.2.2.1), (8, .long a.2.2.2.2.1), (10, .long a.2.2.2.2.2.1), (12, .int a.2.2.2.2.2.2)] → W p l e (z_rm 1 25) s m args below meth c H locs 0 0 (z_ql below D (z_Kt ca) (z_K ad ca q) A s args o) (F0 m 41 ls [])) (x1 : Int64) (x3 : Int32) (x4 : Int64) (x6 : Int64) (x8 : Int64) (x10 : Int64) (x12 : Int32) (h : k_Pa_locate_187 ih41 x1 x3 x4 x6 x8 x10 x12 q = some o) : ∀ (H : Heap) (locs : List Loc) (ls : Array Slot), z_wd D (z_K ad ca q) A s H locs → lv_has ls 17 [(0, .ref (ad 3)), (1, .long x1), (3, .int x3), (4, .long x4), (6, .long x6), (8, .long x8), (10, .long x10), (12, .int x12)] → W p l e (z_rm 1 25) s m args below meth c H locs 0 0 (z_ql below D (z_Kt ca) (z_K ad ca q) A s args o) (F0 m 187 ls []) := by
  obtain ⟨hx, hb, hr, hlk, hml, hown, hts, hK, hA⟩ := id C0
  intro H locs ls hw hl
  obtain ⟨n15, en15, h⟩ := ok_n h
  refine lv_iinc (v := n15) (lv' := [(12, .int n15), (0, .ref (ad 3)), (1, .long x1), (3, .int x3), (4, .long x4), (6, .long x6), (8, .long x8), (10, .long x10)]) hx hb d_Pa_locate_187 hl (k := 7) rfl (by rw [en15]; rfl) (by decide) rfl (fun ls hl => ?_)
  refine lv_goto (tgt := 41) hx hb d_Pa_locate_190 (by decide) ?_
  exact hi41 (x1, x3, x4, x6, x8, x10, n15) h H locs ls hw (lv_sub hl [1, 2, 3, 4, 5, 6, 7, 0] rfl)
set_option maxHeartbeats 4000000 in
set_option maxRecDepth 100000 in
theorem w_Pa_locate_162 {p : Program} {l : Launch} {e : Env} {s : State} {m : MethodId} {args : Array Value} {below : List Frame} {meth : Method} {c : Code} {D : va_G} {A : Nat → Prop} {ad : Nat → Nat} {ca : Nat → ClassId} (o : Int64) (C0 : z_cx z_RPa b_Pa_locate 17 (some .long) D (z_Kt ca) A p s m args meth c) (q : z_Sg) (x3 : Int32) (h : k_Pa_locate_162 x3 q = some o) : ∀ (H : Heap) (locs : List Loc) (ls : Array Slot), z_wd D (z_K ad ca q) A s H locs → lv_has ls 17 [(0, .ref (ad 3)), (3, .int x3)] → W p l e (z_rm 1 25) s m args below meth c H locs 0 0 (z_ql below D (z_Kt ca) (z_K ad ca q) A s args o) (F0 m 162 ls []) := by
  obtain ⟨hx, hb, hr, hlk, hml, hown, hts, hK, hA⟩ := id C0
  intro H locs ls hw hl
  refine lv_aload_n hx hb d_Pa_locate_162 rfl (lv_at hl 0 rfl) ?_
  refine lv_ldc2 (own := z_RPa) hx hb hown (hts _ kl_Pa_51) d_Pa_locate_163 ?_
  refine lv_iload_n hx hb d_Pa_locate_166 rfl (lv_at hl 1 rfl) ?_
  obtain ⟨r18, er18, h⟩ := ok_b h
  refine z_vl (rest := []) C0 hw (c_Pa_refused (9 : Int64) x3 q r18 er18) mw_Pa_refused ml_Pa_43 3 rfl ⟨Nat.le_of_ble_eq_true rfl, Nat.le_of_ble_eq_true rfl⟩ ⟨Nat.le_refl 0, Nat.le_refl 0⟩ rfl hl.1 rfl (Nat.le_of_ble_eq_true rfl) d_Pa_locate_167 (fun H locs hw => ?_)
  have ho := Option.some.inj h
  subst ho
  exact z_rtl C0 hw d_Pa_locate_170
set_option maxHeartbeats 4000000 in
set_option maxRecDepth 100000 in
theorem w_Pa_locate_86 {p : Program} {l : Launch} {e : Env} {s : State} {m : MethodId} {args : Array Value} {below : List Frame} {meth : Method} {c : Code} {D : va_G} {A : Nat → Prop} {ad : Nat → Nat} {ca : Nat → ClassId} (o : Int64) (C0 : z_cx z_RPa b_Pa_locate 17 (some .long) D (z_Kt ca) A p s m args meth c) (q : z_Sg) (ih41 : Int64 × Int32 × Int64 × Int64 × Int64 × Int64 × Int32 → Option Int64) (hi41 : ∀ a : Int64 × Int32 × Int64 × Int64 × Int64 × Int64 × Int32, ih41 a = some o → ∀ (H : Heap) (locs : List Loc) (ls : Array Slot), z_wd D (z_K ad ca q) A s H locs → lv_has ls 17 [(0, .ref (ad 3)), (1, .long a.1), (3, .int a.2.1), (4, .long a.2.2.1), (6, .long a.2.2.2.1), (8, .long a.2.2.2.2.1), (10, .long a.2.2.2.2.2.1), (12, .int a.2.2.2.2.2.2)] → W p l e (z_rm 1 25) s m args below meth c H locs 0 0 (z_ql below D (z_Kt ca) (z_K ad ca q) A s args o) (F0 m 41 ls [])) (x1 : Int64) (x3 : Int32) (x6 : Int64) (x8 : Int64) (x10 : Int64) (x12 : Int32) (t0 : Int64) (h : k_Pa_locate_86 ih41 x1 x3 x6 x8 x10 x12 t0 q = some o) : ∀ (H : Heap) (locs : List Loc) (ls : Array Slot), z_wd D (z_K ad ca q) A s H locs → lv_has ls 17 [(0, .ref (ad 3)), (1, .long x1), (3, .int x3), (6, .long x6), (8, .long x8), (10, .long x10), (12, .int x12)] → W p l e (z_rm 1 25) s m args below meth c H locs 0 0 (z_ql below D (z_Kt ca) (z_K ad ca q) A s args o) (F0 m 86 ls [.long t0]) := by
  obtain ⟨hx, hb, hr, hlk, hml, hown, hts, hK, hA⟩ := id C0
  intro H locs ls hw hl
  refine lv_lstore (lv' := [(15, .long t0), (0, .ref (ad 3)), (1, .long x1), (3, .int x3), (6, .long x6), (8, .long x8), (10, .long x10), (12, .int x12)]) hx hb d_Pa_locate_86 hl (by decide) rfl (fun ls hl => ?_)
  refine lv_lload hx hb d_Pa_locate_88 (lv_at hl 4 rfl) ?_
  refine lv_lload hx hb d_Pa_locate_90 (lv_at hl 0 rfl) ?_
  refine lv_land hx hb d_Pa_locate_92 ?_
  obtain ⟨n10, en10, h⟩ := ok_n h
  refine z_tl en10 ?_
  refine lv_lstore (lv' := [(6, .long n10), (15, .long t0), (0, .ref (ad 3)), (1, .long x1), (3, .int x3), (8, .long x8), (10, .long x10), (12, .int x12)]) hx hb d_Pa_locate_93 hl (by decide) rfl (fun ls hl => ?_)
  refine lv_lload hx hb d_Pa_locate_95 (lv_at hl 5 rfl) ?_
  refine lv_lload hx hb d_Pa_locate_97 (lv_at hl 1 rfl) ?_
  refine lv_lor hx hb d_Pa_locate_99 ?_
  obtain ⟨n11, en11, h⟩ := ok_n h
  refine z_tl en11 ?_
  refine lv_lstore (lv' := [(8, .long n11), (6, .long n10), (15, .long t0), (0, .ref (ad 3)), (1, .long x1), (3, .int x3), (10, .long x10), (12, .int x12)]) hx hb d_Pa_locate_100 hl (by decide) rfl (fun ls hl => ?_)
  refine lv_lload hx hb d_Pa_locate_102 (lv_at hl 2 rfl) ?_
  refine lv_lconst (v := (1 : Int64)) hx hb d_Pa_locate_104 (by decide) ?_
  refine lv_land hx hb d_Pa_locate_105 ?_
  refine lv_lconst (v := (0 : Int64)) hx hb d_Pa_locate_106 (by decide) ?_
  refine W.lcmp hx hb d_Pa_locate_107 ?_
  refine lv_if_ne (tgt := 118) hx hb d_Pa_locate_108 (by decide) (fun c12 => ?_) (fun c12 => ?_)
  · have h := ok_f h (fun z => c12 ((lg_cmp_eq _ _).mpr z))
    refine lv_lload hx hb d_Pa_locate_118 (lv_at hl 2 rfl) ?_
    refine lv_ldc2 (own := z_RPa) hx hb hown (hts _ kl_Pa_37) d_Pa_locate_120 ?_
    refine lv_land hx hb d_Pa_locate_123 ?_
    obtain ⟨n13, en13, h⟩ := ok_n h
    refine z_tl en13 ?_
    refine lv_lstore (lv' := [(4, .long n13), (8, .long n11), (6, .long n10), (15, .long t0), (0, .ref (ad 3)), (1, .long x1), (3, .int x3), (10, .long x10), (12, .int x12)]) hx hb d_Pa_locate_124 hl (by decide) rfl (fun ls hl => ?_)
    refine lv_iload hx hb d_Pa_locate_126 (lv_at hl 8 rfl) ?_
    refine lv_bipush (v := (12 : Int32)) hx hb d_Pa_locate_128 (by decide) ?_
    refine lv_icmp_le (tgt := 187) hx hb d_Pa_locate_130 (by decide) (fun c14 => ?_) (fun c14 => ?_)
    · have h := ok_t h c14
      exact w_Pa_locate_187 o C0 q ih41 hi41 x1 x3 n13 n10 n11 x10 x12 h H locs ls hw (lv_sub hl [4, 5, 6, 0, 2, 1, 7, 8] rfl)
    · have h := ok_f h c14
      refine lv_lload hx hb d_Pa_locate_133 (lv_at hl 3 rfl) ?_
      refine lv_ldc2 (own := z_RPa) hx hb hown (hts _ kl_Pa_47) d_Pa_locate_135 ?_
      refine lv_land hx hb d_Pa_locate_138 ?_
      refine lv_lconst (v := (0 : Int64)) hx hb d_Pa_locate_139 (by decide) ?_
      refine W.lcmp hx hb d_Pa_locate_140 ?_
      refine lv_if_eq (tgt := 187) hx hb d_Pa_locate_141 (by decide) (fun c16 => ?_) (fun c16 => ?_)
      · have h := ok_t h ((lg_cmp_eq _ _).mp c16)
        exact w_Pa_locate_187 o C0 q ih41 hi41 x1 x3 n13 n10 n11 x10 x12 h H locs ls hw (lv_sub hl [4, 5, 6, 0, 2, 1, 7, 8] rfl)
      · have h := ok_f h (fun z => c16 ((lg_cmp_eq _ _).mpr z))
        refine lv_iload hx hb d_Pa_locate_144 (lv_at hl 8 rfl) ?_
        refine lv_bipush (v := (21 : Int32)) hx hb d_Pa_locate_146 (by decide) ?_
        refine lv_icmp_gt (tgt := 162) hx hb d_Pa_locate_148 (by decide) (fun c17 => ?_) (fun c17 => ?_)
        · have h := ok_t h c17
          exact w_Pa_locate_162 o C0 q x3 h H locs ls hw (lv_sub hl [4, 6] rfl)
        · have h := ok_f h c17
          refine lv_lload hx hb d_Pa_locate_151 (lv_at hl 3 rfl) ?_
          refine lv_ldc2 (own := z_RPa) hx hb hown (hts _ kl_Pa_49) d_Pa_locate_153 ?_
          refine lv_land hx hb d_Pa_locate_156 ?_
          refine lv_lconst (v := (0 : Int64)) hx hb d_Pa_locate_157 (by decide) ?_
          refine W.lcmp hx hb d_Pa_locate_158 ?_
          refine lv_if_eq (tgt := 171) hx hb d_Pa_locate_159 (by decide) (fun c19 => ?_) (fun c19 => ?_)
          · have h := ok_t h ((lg_cmp_eq _ _).mp c19)
            refine lv_lload hx hb d_Pa_locate_171 (lv_at hl 3 rfl) ?_
            refine lv_ldc2 (own := z_RPa) hx hb hown (hts _ kl_Pa_53) d_Pa_locate_173 ?_
            refine lv_land hx hb d_Pa_locate_176 ?_
            obtain ⟨n20, en20, h⟩ := ok_n h
            refine z_tl en20 ?_
            refine lv_lstore (lv' := [(4, .long n20), (8, .long n11), (6, .long n10), (15, .long t0), (0, .ref (ad 3)), (1, .long x1), (3, .int x3), (10, .long x10), (12, .int x12)]) hx hb d_Pa_locate_177 hl (by decide) rfl (fun ls hl => ?_)
            refine lv_ldc2 (own := z_RPa) hx hb hown (hts _ kl_Pa_55) d_Pa_locate_179 ?_
            refine lv_lstore (lv' := [(10, .long (2097151 : Int64)), (4, .long n20), (8, .long n11), (6, .long n10), (15, .long t0), (0, .ref (ad 3)), (1, .long x1), (3, .int x3), (12, .int x12)]) hx hb d_Pa_locate_182 hl (by decide) rfl (fun ls hl => ?_)
            refine lv_goto (tgt := 193) hx hb d_Pa_locate_184 (by decide) ?_
            exact w_Pa_locate_193 o C0 q x1 x3 n20 n10 n11 (2097151 : Int64) h H locs ls hw (lv_sub hl [5, 6, 7, 1, 3, 2, 0] rfl)
          · have h := ok_f h (fun z => c19 ((lg_cmp_eq _ _).mpr z))
            exact w_Pa_locate_162 o C0 q x3 h H locs ls hw (lv_sub hl [4, 6] rfl)
  · have h := ok_t h ((lg_cmp_eq _ _).mp c12)
    refine lv_aload_n hx hb d_Pa_locate_111 rfl (lv_at hl 3 rfl) ?_
    refine lv_lconst (v := (0 : Int64)) hx hb d_Pa_locate_112 (by decide) ?_
    refine lv_iload_n hx hb d_Pa_locate_113 rfl (lv_at hl 5 rfl) ?_
    obtain ⟨r21, er21, h⟩ := ok_b h
    refine z_vl (rest := []) C0 hw (c_Pa_refused (0 : Int64) x3 q r21 er21) mw_Pa_refused ml_Pa_43 3 rfl ⟨Nat.le_of_ble_eq_true rfl, Nat.le_of_ble_eq_true rfl⟩ ⟨Nat.le_refl 0, Nat.le_refl 0⟩ rfl hl.1 rfl (Nat.le_of_ble_eq_true rfl) d_Pa_locate_114 (fun H locs hw => ?_)
    have ho := Option.some.inj h
    subst ho
    exact z_rtl C0 hw d_Pa_locate_117
set_option maxHeartbeats 4000000 in
set_option maxRecDepth 100000 in
theorem wb_Pa_locate_41 {p : Program} {l : Launch} {e : Env} {s : State} {m : MethodId} {args : Array Value} {below : List Frame} {meth : Method} {c : Code} {D : va_G} {A : Nat → Prop} {ad : Nat → Nat} {ca : Nat → ClassId} (o : Int64) (C0 : z_cx z_RPa b_Pa_locate 17 (some .long) D (z_Kt ca) A p s m args meth c) (q : z_Sg) (ih41 : Int64 × Int32 × Int64 × Int64 × Int64 × Int64 × Int32 → Option Int64) (hi41 : ∀ a : Int64 × Int32 × Int64 × Int64 × Int64 × Int64 × Int32, ih41 a = some o → ∀ (H : Heap) (locs : List Loc) (ls : Array Slot), z_wd D (z_K ad ca q) A s H locs → lv_has ls 17 [(0, .ref (ad 3)), (1, .long a.1), (3, .int a.2.1), (4, .long a.2.2.1), (6, .long a.2.2.2.1), (8, .long a.2.2.2.2.1), (10, .long a.2.2.2.2.2.1), (12, .int a.2.2.2.2.2.2)] → W p l e (z_rm 1 25) s m args below meth c H locs 0 0 (z_ql below D (z_Kt ca) (z_K ad ca q) A s args o) (F0 m 41 ls [])) (x1 : Int64) (x3 : Int32) (x4 : Int64) (x6 : Int64) (x8 : Int64) (x10 : Int64) (x12 : Int32) (h : kb_Pa_locate_41 ih41 x1 x3 x4 x6 x8 x10 x12 q = some o) : ∀ (H : Heap) (locs : List Loc) (ls : Array Slot), z_wd D (z_K ad ca q) A s H locs → lv_has ls 17 [(0, .ref (ad 3)), (1, .long x1), (3, .int x3), (4, .long x4), (6, .long x6), (8, .long x8), (10, .long x10), (12, .int x12)] → W p l e (z_rm 1 25) s m args below meth c H locs 0 0 (z_ql below D (z_Kt ca) (z_K ad ca q) A s args o) (F0 m 41 ls []) := by
  obtain ⟨hx, hb, hr, hlk, hml, hown, hts, hK, hA⟩ := id C0
  intro H locs ls hw hl
  refine lv_iload hx hb d_Pa_locate_41 (lv_at hl 7 rfl) ?_
  refine lv_bipush (v := (12 : Int32)) hx hb d_Pa_locate_43 (by decide) ?_
  refine lv_icmp_lt (tgt := 193) hx hb d_Pa_locate_45 (by decide) (fun c4 => ?_) (fun c4 => ?_)
  · have h := ok_t h c4
    exact w_Pa_locate_193 o C0 q x1 x3 x4 x6 x8 x10 h H locs ls hw (lv_sub hl [0, 1, 2, 3, 4, 5, 6] rfl)
  · have h := ok_f h c4
    refine lv_lload hx hb d_Pa_locate_48 (lv_at hl 3 rfl) ?_
    refine lv_lload_n hx hb d_Pa_locate_50 rfl (lv_at hl 1 rfl) ?_
    refine lv_iload hx hb d_Pa_locate_51 (lv_at hl 7 rfl) ?_
    refine lv_lushr (v := (z_lushr x1 x12)) hx hb d_Pa_locate_53 rfl ?_
    refine lv_ldc2 (own := z_RPa) hx hb hown (hts _ kl_Pa_41) d_Pa_locate_54 ?_
    refine lv_land hx hb d_Pa_locate_57 ?_
    refine lv_iconst (v := (3 : Int32)) hx hb d_Pa_locate_58 (by decide) ?_
    refine lv_lshl (v := (z_lshl ((z_lushr x1 x12) &&& (511 : Int64)) (3 : Int32))) hx hb d_Pa_locate_59 rfl ?_
    refine lv_ladd hx hb d_Pa_locate_60 ?_
    obtain ⟨n8, en8, h⟩ := ok_n h
    refine z_tl en8 ?_
    refine lv_lstore (lv' := [(13, .long n8), (0, .ref (ad 3)), (1, .long x1), (3, .int x3), (4, .long x4), (6, .long x6), (8, .long x8), (10, .long x10), (12, .int x12)]) hx hb d_Pa_locate_61 hl (by decide) rfl (fun ls hl => ?_)
    refine lv_lload hx hb d_Pa_locate_63 (lv_at hl 0 rfl) ?_
    refine lv_ldc2 (own := z_RPa) hx hb hown (hts _ kl_Pa_19) d_Pa_locate_65 ?_
    refine W.lcmp hx hb d_Pa_locate_68 ?_
    refine lv_if_ge (tgt := 85) hx hb d_Pa_locate_69 (by decide) (fun c9 => ?_) (fun c9 => ?_)
    · have h := ok_t h ((lg_cmp_ge _ _).mp c9)
      refine lv_lconst (v := (0 : Int64)) hx hb d_Pa_locate_85 (by decide) ?_
      exact w_Pa_locate_86 o C0 q ih41 hi41 x1 x3 x6 x8 x10 x12 (0 : Int64) h H locs ls hw (lv_sub hl [1, 2, 3, 5, 6, 7, 8] rfl)
    · have h := ok_f h (fun z => c9 ((lg_cmp_ge _ _).mpr z))
      refine lv_aload_n hx hb d_Pa_locate_72 rfl (lv_at hl 1 rfl) ?_
      refine gfK_3_words C0 hw fl_Pa_11 d_Pa_locate_73 ?_
      refine lv_lload hx hb d_Pa_locate_76 (lv_at hl 0 rfl) ?_
      refine lv_iconst (v := (3 : Int32)) hx hb d_Pa_locate_78 (by decide) ?_
      refine lv_lushr (v := (z_lushr n8 (3 : Int32))) hx hb d_Pa_locate_79 rfl ?_
      refine lv_l2i hx hb d_Pa_locate_80 rfl ?_
      obtain ⟨b22, h⟩ := ok_g h
      refine alK_4 C0 hw b22 d_Pa_locate_81 ?_
      refine lv_goto (tgt := 86) hx hb d_Pa_locate_82 (by decide) ?_
      exact w_Pa_locate_86 o C0 q ih41 hi41 x1 x3 x6 x8 x10 x12 (z_gM q 1 ((z_lushr n8 (3 : Int32)).toInt32).toNatClampNeg) h H locs ls hw (lv_sub hl [1, 2, 3, 5, 6, 7, 8] rfl)
theorem w_Pa_locate_41 {p : Program} {l : Launch} {e : Env} {s : State} {m : MethodId} {args : Array Value} {below : List Frame} {meth : Method} {c : Code} {D : va_G} {A : Nat → Prop} {ad : Nat → Nat} {ca : Nat → ClassId} (o : Int64) (C0 : z_cx z_RPa b_Pa_locate 17 (some .long) D (z_Kt ca) A p s m args meth c) (q : z_Sg) (x1 : Int64) (x3 : Int32) (x4 : Int64) (x6 : Int64) (x8 : Int64) (x10 : Int64) (x12 : Int32) (h : k_Pa_locate_41 x1 x3 x4 x6 x8 x10 x12 q = some o) : ∀ (H : Heap) (locs : List Loc) (ls : Array Slot), z_wd D (z_K ad ca q) A s H locs → lv_has ls 17 [(0, .ref (ad 3)), (1, .long x1), (3, .int x3), (4, .long x4), (6, .long x6), (8, .long x8), (10, .long x10), (12, .int x12)] → W p l e (z_rm 1 25) s m args below meth c H locs 0 0 (z_ql below D (z_Kt ca) (z_K ad ca q) A s args o) (F0 m 41 ls []) := by
  have key : ∀ (n : Nat) (a : Int64 × Int32 × Int64 × Int64 × Int64 × Int64 × Int32), z_lo (fun ih41 a => kb_Pa_locate_41 ih41 a.1 a.2.1 a.2.2.1 a.2.2.2.1 a.2.2.2.2.1 a.2.2.2.2.2.1 a.2.2.2.2.2.2 q) n a = some o → ∀ (H : Heap) (locs : List Loc) (ls : Array Slot), z_wd D (z_K ad ca q) A s H locs → lv_has ls 17 [(0, .ref (ad 3)), (1, .long a.1), (3, .int a.2.1), (4, .long a.2.2.1), (6, .long a.2.2.2.1), (8, .long a.2.2.2.2.1), (10, .long a.2.2.2.2.2.1), (12, .int a.2.2.2.2.2.2)] → W p l e (z_rm 1 25) s m args below meth c H locs 0 0 (z_ql below D (z_Kt ca) (z_K ad ca q) A s args o) (F0 m 41 ls []) := by
    intro n
    induction n with
    | zero => intro a h; cases h
    | succ n ih => exact fun a h => wb_Pa_locate_41 o C0 q (z_lo (fun ih41 a => kb_Pa_locate_41 ih41 a.1 a.2.1 a.2.2.1 a.2.2.2.1 a.2.2.2.2.1 a.2.2.2.2.2.1 a.2.2.2.2.2.2 q) n) ih a.1 a.2.1 a.2.2.1 a.2.2.2.1 a.2.2.2.2.1 a.2.2.2.2.2.1 a.2.2.2.2.2.2 h
  exact key 2000 (x1, x3, x4, x6, x8, x10, x12) h
set_option maxHeartbeats 4000000 in
set_option maxRecDepth 100000 in
theorem c_Pa_locate {l : Launch} {D : va_G} {ad : Nat → Nat} {ca : Nat → ClassId} (x1 : Int64) (x3 : Int32) (q : z_Sg) (o : Int64) (h : f_Pa_locate x1 x3 q = some o) : z_cl l y_Pa_locate b_Pa_locate 17 (some .long) 1 25 D (z_Kt ca) (z_K ad ca q) (z_K ad ca q) [.ref (ad 3), .long x1, .int x3] o := by
  refine z_cl_of (own := z_RPa) (by decide) rfl ?_
  intro p e s m below meth c A C0 hw
  obtain ⟨hx, hb, hr, hlk, hml, hown, hts, hK, hA⟩ := id C0
  generalize hH : s.heap = H at hw ⊢
  generalize hlo : ([] : List Loc) = locs at hw ⊢
  refine z_entry (lv := [(0, .ref (ad 3)), (1, .long x1), (3, .int x3)]) (Nat.le_of_ble_eq_true rfl) rfl (fun ls hl => ?_)
  unfold f_Pa_locate at h
  refine lv_lload_n hx hb d_Pa_locate_0 rfl (lv_at hl 1 rfl) ?_
  obtain ⟨r1, er1, h⟩ := ok_b h
  refine z_si (rest := []) C0 hw (c_Pa_isWrong x1 q r1 er1) mw_Pa_isWrong ml_Pa_27 ⟨Nat.le_of_ble_eq_true rfl, Nat.le_of_ble_eq_true rfl⟩ ⟨Nat.le_refl 0, Nat.le_refl 0⟩ rfl hl.1 rfl (Nat.le_of_ble_eq_true rfl) d_Pa_locate_1 (fun H locs hw => ?_)
  refine lv_if_eq (tgt := 11) hx hb d_Pa_locate_4 (by decide) (fun c2 => ?_) (fun c2 => ?_)
  · have h := ok_t h c2
    refine lv_aload_n hx hb d_Pa_locate_11 rfl (lv_at hl 0 rfl) ?_
    refine gfK_3_state C0 hw fl_Pa_15 d_Pa_locate_12 ?_
    refine gfK_1_table C0 hw fl_Pa_31 d_Pa_locate_15 ?_
    refine lv_ldc2 (own := z_RPa) hx hb hown (hts _ kl_Pa_37) d_Pa_locate_18 ?_
    refine lv_land hx hb d_Pa_locate_21 ?_
    obtain ⟨n3, en3, h⟩ := ok_n h
    refine z_tl en3 ?_
    refine lv_lstore (lv' := [(4, .long n3), (0, .ref (ad 3)), (1, .long x1), (3, .int x3)]) hx hb d_Pa_locate_22 hl (by decide) rfl (fun ls hl => ?_)
    refine lv_ldc2 (own := z_RPa) hx hb hown (hts _ kl_Pa_25) d_Pa_locate_24 ?_
    refine lv_lstore (lv' := [(6, .long (-1 : Int64)), (4, .long n3), (0, .ref (ad 3)), (1, .long x1), (3, .int x3)]) hx hb d_Pa_locate_27 hl (by decide) rfl (fun ls hl => ?_)
    refine lv_lconst (v := (0 : Int64)) hx hb d_Pa_locate_29 (by decide) ?_
    refine lv_lstore (lv' := [(8, .long (0 : Int64)), (6, .long (-1 : Int64)), (4, .long n3), (0, .ref (ad 3)), (1, .long x1), (3, .int x3)]) hx hb d_Pa_locate_30 hl (by decide) rfl (fun ls hl => ?_)
    refine lv_ldc2 (own := z_RPa) hx hb hown (hts _ kl_Pa_39) d_Pa_locate_32 ?_
    refine lv_lstore (lv' := [(10, .long (4095 : Int64)), (8, .long (0 : Int64)), (6, .long (-1 : Int64)), (4, .long n3), (0, .ref (ad 3)), (1, .long x1), (3, .int x3)]) hx hb d_Pa_locate_35 hl (by decide) rfl (fun ls hl => ?_)
    refine lv_bipush (v := (39 : Int32)) hx hb d_Pa_locate_37 (by decide) ?_
    refine lv_istore (lv' := [(12, .int (39 : Int32)), (10, .long (4095 : Int64)), (8, .long (0 : Int64)), (6, .long (-1 : Int64)), (4, .long n3), (0, .ref (ad 3)), (1, .long x1), (3, .int x3)]) hx hb d_Pa_locate_39 hl (by decide) rfl (fun ls hl => ?_)
    exact w_Pa_locate_41 o C0 q x1 x3 n3 (-1 : Int64) (0 : Int64) (4095 : Int64) (39 : Int32) h H locs ls hw (lv_sub hl [5, 6, 7, 4, 3, 2, 1, 0] rfl)
  · have h := ok_f h c2
    refine lv_ldc2 (own := z_RPa) hx hb hown (hts _ kl_Pa_25) d_Pa_locate_7 ?_
    have ho := Option.some.inj h
    subst ho
    exact z_rtl C0 hw d_Pa_locate_10
def f_Pa_refusal (x1 : Int64) (x3 : Int64) (x5 : Int32) (q : z_Sg) : Option (Int32 × z_Sg) :=
  if x3 = (-1 : Int64) then (some (x5, q)) else (z_nm (z_sL q 5 x1) (fun q2 => z_nm (z_sI q2 1 (((-2 : Int64) - x3).toInt32)) (fun q3 => some ((14 : Int32), q3))))
set_option maxHeartbeats 4000000 in
set_option maxRecDepth 100000 in
theorem c_Pa_refusal {l : Launch} {D : va_G} {ad : Nat → Nat} {ca : Nat → ClassId} (x1 : Int64) (x3 : Int64) (x5 : Int32) (q : z_Sg) (o : (Int32 × z_Sg)) (h : f_Pa_refusal x1 x3 x5 q = some o) : z_ci l y_Pa_refusal b_Pa_refusal 6 (some .int) 0 0 D (z_Kt ca) (z_K ad ca q) (z_K ad ca o.2) [.ref (ad 3), .long x1, .long x3, .int x5] o.1 := by
  refine z_ci_of (own := z_RPa) (by decide) rfl ?_
  intro p e s m below meth c A C0 hw
  obtain ⟨hx, hb, hr, hlk, hml, hown, hts, hK, hA⟩ := id C0
  generalize hH : s.heap = H at hw ⊢
  generalize hlo : ([] : List Loc) = locs at hw ⊢
  refine z_entry (lv := [(0, .ref (ad 3)), (1, .long x1), (3, .long x3), (5, .int x5)]) (Nat.le_of_ble_eq_true rfl) rfl (fun ls hl => ?_)
  unfold f_Pa_refusal at h
  refine lv_lload_n hx hb d_Pa_refusal_0 rfl (lv_at hl 2 rfl) ?_
  refine lv_ldc2 (own := z_RPa) hx hb hown (hts _ kl_Pa_25) d_Pa_refusal_1 ?_
  refine W.lcmp hx hb d_Pa_refusal_4 ?_
  refine lv_if_ne (tgt := 11) hx hb d_Pa_refusal_5 (by decide) (fun c1 => ?_) (fun c1 => ?_)
  · have h := ok_f h (fun z => c1 ((lg_cmp_eq _ _).mpr z))
    refine lv_aload_n hx hb d_Pa_refusal_11 rfl (lv_at hl 0 rfl) ?_
    refine gfK_3_state C0 hw fl_Pa_15 d_Pa_refusal_12 ?_
    refine lv_lload_n hx hb d_Pa_refusal_15 rfl (lv_at hl 1 rfl) ?_
    refine pfK_1_fault C0 hw fl_Pa_73 d_Pa_refusal_16 (fun H locs hw => ?_)
    obtain ⟨q2, eq2, h⟩ := ok_n h
    rw [← eq2] at hw
    refine lv_aload_n hx hb d_Pa_refusal_19 rfl (lv_at hl 0 rfl) ?_
    refine gfK_3_state C0 hw fl_Pa_15 d_Pa_refusal_20 ?_
    refine lv_ldc2 (own := z_RPa) hx hb hown (hts _ kl_Pa_71) d_Pa_refusal_23 ?_
    refine lv_lload_n hx hb d_Pa_refusal_26 rfl (lv_at hl 2 rfl) ?_
    refine lv_lsub hx hb d_Pa_refusal_27 ?_
    refine lv_l2i hx hb d_Pa_refusal_28 rfl ?_
    refine pfK_1_code C0 hw fl_Pa_76 d_Pa_refusal_29 (fun H locs hw => ?_)
    obtain ⟨q3, eq3, h⟩ := ok_n h
    rw [← eq3] at hw
    refine lv_bipush (v := (14 : Int32)) hx hb d_Pa_refusal_32 (by decide) ?_
    have ho := Option.some.inj h
    subst ho
    exact z_rti C0 hw d_Pa_refusal_34
  · have h := ok_t h ((lg_cmp_eq _ _).mp c1)
    refine lv_iload hx hb d_Pa_refusal_8 (lv_at hl 3 rfl) ?_
    have ho := Option.some.inj h
    subst ho
    exact z_rti C0 hw d_Pa_refusal_10
def k_De_fetch_93 (q : z_Sg) : Option (Int32 × z_Sg) :=
  (f_Pa_byteAt (z_gL q 6) q).bind (fun r7 => z_nm (z_sI q 4 r7) (fun q8 => z_nm (z_sI q8 3 ((z_gI q8 3) + (1 : Int32))) (fun q9 => some ((-1 : Int32), q9))))
def k_De_fetch_56 (x1 : Int64) (q : z_Sg) : Option (Int32 × z_Sg) :=
  (f_Pa_locate x1 (2 : Int32) q).bind (fun r4 => z_nm (z_sL q 6 r4) (fun q5 => if (0 : Int64) ≤ (z_gL q5 6) then (k_De_fetch_93 q5) else ((f_Pa_refusal x1 (z_gL q5 6) (13 : Int32) q5).bind (fun r10 => some (r10.1, r10.2)))))
def f_De_fetch (q : z_Sg) : Option (Int32 × z_Sg) :=
  if (z_gI q 3) < (15 : Int32) then (z_nm (((z_gL q 0) + ((z_gI q 3).toInt64))) (fun n2 => if (z_gI q 3) ≤ 0 then (k_De_fetch_56 n2 q) else (if (n2 &&& (4095 : Int64)) = (0 : Int64) then (k_De_fetch_56 n2 q) else (z_nm (z_sL q 6 ((z_gL q 6) + (1 : Int64))) (fun q12 => k_De_fetch_93 q12))))) else (some ((13 : Int32), q))
set_option maxHeartbeats 4000000 in
set_option maxRecDepth 100000 in
theorem w_De_fetch_93 {p : Program} {l : Launch} {e : Env} {s : State} {m : MethodId} {args : Array Value} {below : List Frame} {meth : Method} {c : Code} {D : va_G} {A : Nat → Prop} {ad : Nat → Nat} {ca : Nat → ClassId} (o : (Int32 × z_Sg)) (C0 : z_cx z_RDe b_De_fetch 3 (some .int) D (z_Kt ca) A p s m args meth c) (q : z_Sg) (h : k_De_fetch_93 q = some o) : ∀ (H : Heap) (locs : List Loc) (ls : Array Slot), z_wd D (z_K ad ca q) A s H locs → lv_has ls 3 [(0, .ref (ad 5))] → W p l e (z_rm 2 61) s m args below meth c H locs 0 0 (z_qi below D (z_Kt ca) (z_K ad ca o.2) A s args o.1) (F0 m 93 ls []) := by
  obtain ⟨hx, hb, hr, hlk, hml, hown, hts, hK, hA⟩ := id C0
  intro H locs ls hw hl
  refine lv_aload_n hx hb d_De_fetch_93 rfl (lv_at hl 0 rfl) ?_
  refine lv_aload_n hx hb d_De_fetch_94 rfl (lv_at hl 0 rfl) ?_
  refine gfK_5_pages C0 hw fl_De_15 d_De_fetch_95 ?_
  refine lv_aload_n hx hb d_De_fetch_98 rfl (lv_at hl 0 rfl) ?_
  refine gfK_5_found C0 hw fl_De_144 d_De_fetch_99 ?_
  obtain ⟨r7, er7, h⟩ := ok_b h
  refine z_vi (rest := [.ref (ad 5)]) C0 hw (c_Pa_byteAt (z_gL q 6) q r7 er7) mw_Pa_byteAt ml_De_154 3 rfl ⟨Nat.le_of_ble_eq_true rfl, Nat.le_of_ble_eq_true rfl⟩ ⟨Nat.le_refl 0, Nat.le_refl 0⟩ rfl hl.1 rfl (Nat.le_of_ble_eq_true rfl) d_De_fetch_102 (fun H locs hw => ?_)
  refine pfK_5_last C0 hw fl_De_84 d_De_fetch_105 (fun H locs hw => ?_)
  obtain ⟨q8, eq8, h⟩ := ok_n h
  rw [← eq8] at hw
  refine lv_aload_n hx hb d_De_fetch_108 rfl (lv_at hl 0 rfl) ?_
  refine lv_dup hx hb d_De_fetch_109 rfl ?_
  refine gfK_5_count C0 hw fl_De_65 d_De_fetch_110 ?_
  refine lv_iconst (v := (1 : Int32)) hx hb d_De_fetch_113 (by decide) ?_
  refine lv_iadd hx hb d_De_fetch_114 ?_
  refine pfK_5_count C0 hw fl_De_65 d_De_fetch_115 (fun H locs hw => ?_)
  obtain ⟨q9, eq9, h⟩ := ok_n h
  rw [← eq9] at hw
  refine lv_iconst (v := (-1 : Int32)) hx hb d_De_fetch_118 (by decide) ?_
  have ho := Option.some.inj h
  subst ho
  exact z_rti C0 hw d_De_fetch_119
set_option maxHeartbeats 4000000 in
set_option maxRecDepth 100000 in
theorem w_De_fetch_56 {p : Program} {l : Launch} {e : Env} {s : State} {m : MethodId} {args : Array Value} {below : List Frame} {meth : Method} {c : Code} {D : va_G} {A : Nat → Prop} {ad : Nat → Nat} {ca : Nat → ClassId} (o : (Int32 × z_Sg)) (C0 : z_cx z_RDe b_De_fetch 3 (some .int) D (z_Kt ca) A p s m args meth c) (q : z_Sg) (x1 : Int64) (h : k_De_fetch_56 x1 q = some o) : ∀ (H : Heap) (locs : List Loc) (ls : Array Slot), z_wd D (z_K ad ca q) A s H locs → lv_has ls 3 [(0, .ref (ad 5)), (1, .long x1)] → W p l e (z_rm 2 61) s m args below meth c H locs 0 0 (z_qi below D (z_Kt ca) (z_K ad ca o.2) A s args o.1) (F0 m 56 ls []) := by
  obtain ⟨hx, hb, hr, hlk, hml, hown, hts, hK, hA⟩ := id C0
  intro H locs ls hw hl
  refine lv_aload_n hx hb d_De_fetch_56 rfl (lv_at hl 0 rfl) ?_
  refine lv_aload_n hx hb d_De_fetch_57 rfl (lv_at hl 0 rfl) ?_
  refine gfK_5_pages C0 hw fl_De_15 d_De_fetch_58 ?_
  refine lv_lload_n hx hb d_De_fetch_61 rfl (lv_at hl 1 rfl) ?_
  refine lv_iconst (v := (2 : Int32)) hx hb d_De_fetch_62 (by decide) ?_
  obtain ⟨r4, er4, h⟩ := ok_b h
  refine z_vl (rest := [.ref (ad 5)]) C0 hw (c_Pa_locate x1 (2 : Int32) q r4 er4) mw_Pa_locate ml_De_147 3 rfl ⟨Nat.le_of_ble_eq_true rfl, Nat.le_of_ble_eq_true rfl⟩ ⟨Nat.le_refl 0, Nat.le_refl 0⟩ rfl hl.1 rfl (Nat.le_of_ble_eq_true rfl) d_De_fetch_63 (fun H locs hw => ?_)
  refine pfK_5_found C0 hw fl_De_144 d_De_fetch_66 (fun H locs hw => ?_)
  obtain ⟨q5, eq5, h⟩ := ok_n h
  rw [← eq5] at hw
  refine lv_aload_n hx hb d_De_fetch_69 rfl (lv_at hl 0 rfl) ?_
  refine gfK_5_found C0 hw fl_De_144 d_De_fetch_70 ?_
  refine lv_lconst (v := (0 : Int64)) hx hb d_De_fetch_73 (by decide) ?_
  refine W.lcmp hx hb d_De_fetch_74 ?_
  refine lv_if_ge (tgt := 93) hx hb d_De_fetch_75 (by decide) (fun c6 => ?_) (fun c6 => ?_)
  · have h := ok_t h ((lg_cmp_ge _ _).mp c6)
    exact w_De_fetch_93 o C0 q5 h H locs ls hw (lv_sub hl [0] rfl)
  · have h := ok_f h (fun z => c6 ((lg_cmp_ge _ _).mpr z))
    refine lv_aload_n hx hb d_De_fetch_78 rfl (lv_at hl 0 rfl) ?_
    refine gfK_5_pages C0 hw fl_De_15 d_De_fetch_79 ?_
    refine lv_lload_n hx hb d_De_fetch_82 rfl (lv_at hl 1 rfl) ?_
    refine lv_aload_n hx hb d_De_fetch_83 rfl (lv_at hl 0 rfl) ?_
    refine gfK_5_found C0 hw fl_De_144 d_De_fetch_84 ?_
    refine lv_bipush (v := (13 : Int32)) hx hb d_De_fetch_87 (by decide) ?_
    obtain ⟨r10, er10, h⟩ := ok_b h
    refine z_vi (rest := []) C0 hw (c_Pa_refusal x1 (z_gL q5 6) (13 : Int32) q5 r10 er10) mw_Pa_refusal ml_De_150 3 rfl ⟨Nat.le_of_ble_eq_true rfl, Nat.le_of_ble_eq_true rfl⟩ ⟨Nat.le_refl 0, Nat.le_refl 0⟩ rfl hl.1 rfl (Nat.le_of_ble_eq_true rfl) d_De_fetch_89 (fun H locs hw => ?_)
    have ho := Option.some.inj h
    subst ho
    exact z_rti C0 hw d_De_fetch_92
set_option maxHeartbeats 4000000 in
set_option maxRecDepth 100000 in
theorem c_De_fetch {l : Launch} {D : va_G} {ad : Nat → Nat} {ca : Nat → ClassId} (q : z_Sg) (o : (Int32 × z_Sg)) (h : f_De_fetch q = some o) : z_ci l y_De_fetch b_De_fetch 3 (some .int) 2 61 D (z_Kt ca) (z_K ad ca q) (z_K ad ca o.2) [.ref (ad 5)] o.1 := by
  refine z_ci_of (own := z_RDe) (by decide) rfl ?_
  intro p e s m below meth c A C0 hw
  obtain ⟨hx, hb, hr, hlk, hml, hown, hts, hK, hA⟩ := id C0
  generalize hH : s.heap = H at hw ⊢
  generalize hlo : ([] : List Loc) = locs at hw ⊢
  refine z_entry (lv := [(0, .ref (ad 5))]) (Nat.le_of_ble_eq_true rfl) rfl (fun ls hl => ?_)
  unfold f_De_fetch at h
  refine lv_aload_n hx hb d_De_fetch_0 rfl (lv_at hl 0 rfl) ?_
  refine gfK_5_count C0 hw fl_De_65 d_De_fetch_1 ?_
  refine lv_bipush (v := (15 : Int32)) hx hb d_De_fetch_4 (by decide) ?_
  refine lv_icmp_lt (tgt := 12) hx hb d_De_fetch_6 (by decide) (fun c1 => ?_) (fun c1 => ?_)
  · have h := ok_t h c1
    refine lv_aload_n hx hb d_De_fetch_12 rfl (lv_at hl 0 rfl) ?_
    refine gfK_5_state C0 hw fl_De_9 d_De_fetch_13 ?_
    refine gfK_1_next C0 hw fl_De_60 d_De_fetch_16 ?_
    refine lv_aload_n hx hb d_De_fetch_19 rfl (lv_at hl 0 rfl) ?_
    refine gfK_5_count C0 hw fl_De_65 d_De_fetch_20 ?_
    refine lv_i2l hx hb d_De_fetch_23 rfl ?_
    refine lv_ladd hx hb d_De_fetch_24 ?_
    obtain ⟨n2, en2, h⟩ := ok_n h
    refine z_tl en2 ?_
    refine lv_lstore_n (lv' := [(1, .long n2), (0, .ref (ad 5))]) hx hb d_De_fetch_25 rfl hl (by decide) rfl (fun ls hl => ?_)
    refine lv_aload_n hx hb d_De_fetch_26 rfl (lv_at hl 1 rfl) ?_
    refine gfK_5_count C0 hw fl_De_65 d_De_fetch_27 ?_
    refine lv_if_le (tgt := 56) hx hb d_De_fetch_30 (by decide) (fun c3 => ?_) (fun c3 => ?_)
    · have h := ok_t h c3
      exact w_De_fetch_56 o C0 q n2 h H locs ls hw (lv_sub hl [1, 0] rfl)
    · have h := ok_f h c3
      refine lv_lload_n hx hb d_De_fetch_33 rfl (lv_at hl 0 rfl) ?_
      refine lv_ldc2 (own := z_RDe) hx hb hown (hts _ kl_De_142) d_De_fetch_34 ?_
      refine lv_land hx hb d_De_fetch_37 ?_
      refine lv_lconst (v := (0 : Int64)) hx hb d_De_fetch_38 (by decide) ?_
      refine W.lcmp hx hb d_De_fetch_39 ?_
      refine lv_if_eq (tgt := 56) hx hb d_De_fetch_40 (by decide) (fun c11 => ?_) (fun c11 => ?_)
      · have h := ok_t h ((lg_cmp_eq _ _).mp c11)
        exact w_De_fetch_56 o C0 q n2 h H locs ls hw (lv_sub hl [1, 0] rfl)
      · have h := ok_f h (fun z => c11 ((lg_cmp_eq _ _).mpr z))
        refine lv_aload_n hx hb d_De_fetch_43 rfl (lv_at hl 1 rfl) ?_
        refine lv_dup hx hb d_De_fetch_44 rfl ?_
        refine gfK_5_found C0 hw fl_De_144 d_De_fetch_45 ?_
        refine lv_lconst (v := (1 : Int64)) hx hb d_De_fetch_48 (by decide) ?_
        refine lv_ladd hx hb d_De_fetch_49 ?_
        refine pfK_5_found C0 hw fl_De_144 d_De_fetch_50 (fun H locs hw => ?_)
        obtain ⟨q12, eq12, h⟩ := ok_n h
        rw [← eq12] at hw
        refine lv_goto (tgt := 93) hx hb d_De_fetch_53 (by decide) ?_
        exact w_De_fetch_93 o C0 q12 h H locs ls hw (lv_sub hl [1] rfl)
  · have h := ok_f h c1
    refine lv_bipush (v := (13 : Int32)) hx hb d_De_fetch_9 (by decide) ?_
    have ho := Option.some.inj h
    subst ho
    exact z_rti C0 hw d_De_fetch_11
def k_De_isPrefix_35 (t0 : Int32) (q : z_Sg) : Option Int32 :=
  z_gd (z_bo t0) (some t0)
def k_De_isPrefix_30 (q : z_Sg) : Option Int32 :=
  k_De_isPrefix_35 (1 : Int32) q
def f_De_isPrefix (x0 : Int32) (q : z_Sg) : Option Int32 :=
  if (x0 &&& (240 : Int32)) = (64 : Int32) then (k_De_isPrefix_30 q) else (if x0 = (102 : Int32) then (k_De_isPrefix_30 q) else (if x0 = (242 : Int32) then (k_De_isPrefix_30 q) else (if x0 = (243 : Int32) then (k_De_isPrefix_30 q) else (k_De_isPrefix_35 (0 : Int32) q))))
set_option maxHeartbeats 4000000 in
set_option maxRecDepth 100000 in
theorem w_De_isPrefix_35 {p : Program} {l : Launch} {e : Env} {s : State} {m : MethodId} {args : Array Value} {below : List Frame} {meth : Method} {c : Code} {D : va_G} {A : Nat → Prop} {ad : Nat → Nat} {ca : Nat → ClassId} (o : Int32) (C0 : z_cx z_RDe b_De_isPrefix 1 (some .boolean) D (z_Kt ca) A p s m args meth c) (q : z_Sg) (t0 : Int32) (h : k_De_isPrefix_35 t0 q = some o) : ∀ (H : Heap) (locs : List Loc) (ls : Array Slot), z_wd D (z_K ad ca q) A s H locs → lv_has ls 1 [] → W p l e (z_rm 0 0) s m args below meth c H locs 0 0 (z_qi below D (z_Kt ca) (z_K ad ca q) A s args o) (F0 m 35 ls [.int t0]) := by
  obtain ⟨hx, hb, hr, hlk, hml, hown, hts, hK, hA⟩ := id C0
  intro H locs ls hw hl
  obtain ⟨b2, h⟩ := ok_G h
  have ho := Option.some.inj h
  subst ho
  exact z_rtz C0 hw (z_bo_n b2) d_De_isPrefix_35
set_option maxHeartbeats 4000000 in
set_option maxRecDepth 100000 in
theorem w_De_isPrefix_30 {p : Program} {l : Launch} {e : Env} {s : State} {m : MethodId} {args : Array Value} {below : List Frame} {meth : Method} {c : Code} {D : va_G} {A : Nat → Prop} {ad : Nat → Nat} {ca : Nat → ClassId} (o : Int32) (C0 : z_cx z_RDe b_De_isPrefix 1 (some .boolean) D (z_Kt ca) A p s m args meth c) (q : z_Sg) (h : k_De_isPrefix_30 q = some o) : ∀ (H : Heap) (locs : List Loc) (ls : Array Slot), z_wd D (z_K ad ca q) A s H locs → lv_has ls 1 [] → W p l e (z_rm 0 0) s m args below meth c H locs 0 0 (z_qi below D (z_Kt ca) (z_K ad ca q) A s args o) (F0 m 30 ls []) := by
  obtain ⟨hx, hb, hr, hlk, hml, hown, hts, hK, hA⟩ := id C0
  intro H locs ls hw hl
  refine lv_iconst (v := (1 : Int32)) hx hb d_De_isPrefix_30 (by decide) ?_
  refine lv_goto (tgt := 35) hx hb d_De_isPrefix_31 (by decide) ?_
  exact w_De_isPrefix_35 o C0 q (1 : Int32) h H locs ls hw (lv_sub hl [] rfl)
set_option maxHeartbeats 4000000 in
set_option maxRecDepth 100000 in
theorem c_De_isPrefix {l : Launch} {D : va_G} {ad : Nat → Nat} {ca : Nat → ClassId} (x0 : Int32) (q : z_Sg) (o : Int32) (h : f_De_isPrefix x0 q = some o) : z_ci l y_De_isPrefix b_De_isPrefix 1 (some .boolean) 0 0 D (z_Kt ca) (z_K ad ca q) (z_K ad ca q) [.int x0] o := by
  refine z_ci_of (own := z_RDe) (by decide) rfl ?_
  intro p e s m below meth c A C0 hw
  obtain ⟨hx, hb, hr, hlk, hml, hown, hts, hK, hA⟩ := id C0
  generalize hH : s.heap = H at hw ⊢
  generalize hlo : ([] : List Loc) = locs at hw ⊢
  refine z_entry (lv := [(0, .int x0)]) (Nat.le_of_ble_eq_true rfl) rfl (fun ls hl => ?_)
  unfold f_De_isPrefix at h
  refine lv_iload_n hx hb d_De_isPrefix_0 rfl (lv_at hl 0 rfl) ?_
  refine lv_sipush (v := (240 : Int32)) hx hb d_De_isPrefix_1 (by decide) ?_
  refine lv_iand hx hb d_De_isPrefix_4 ?_
  refine lv_bipush (v := (64 : Int32)) hx hb d_De_isPrefix_5 (by decide) ?_
  refine lv_icmp_eq (tgt := 30) hx hb d_De_isPrefix_7 (by decide) (fun c1 => ?_) (fun c1 => ?_)
  · have h := ok_t h c1
    exact w_De_isPrefix_30 o C0 q h H locs ls hw (lv_sub hl [] rfl)
  · have h := ok_f h c1
    refine lv_iload_n hx hb d_De_isPrefix_10 rfl (lv_at hl 0 rfl) ?_
    refine lv_bipush (v := (102 : Int32)) hx hb d_De_isPrefix_11 (by decide) ?_
    refine lv_icmp_eq (tgt := 30) hx hb d_De_isPrefix_13 (by decide) (fun c3 => ?_) (fun c3 => ?_)
    · have h := ok_t h c3
      exact w_De_isPrefix_30 o C0 q h H locs ls hw (lv_sub hl [] rfl)
    · have h := ok_f h c3
      refine lv_iload_n hx hb d_De_isPrefix_16 rfl (lv_at hl 0 rfl) ?_
      refine lv_sipush (v := (242 : Int32)) hx hb d_De_isPrefix_17 (by decide) ?_
      refine lv_icmp_eq (tgt := 30) hx hb d_De_isPrefix_20 (by decide) (fun c4 => ?_) (fun c4 => ?_)
      · have h := ok_t h c4
        exact w_De_isPrefix_30 o C0 q h H locs ls hw (lv_sub hl [] rfl)
      · have h := ok_f h c4
        refine lv_iload_n hx hb d_De_isPrefix_23 rfl (lv_at hl 0 rfl) ?_
        refine lv_sipush (v := (243 : Int32)) hx hb d_De_isPrefix_24 (by decide) ?_
        refine lv_icmp_ne (tgt := 34) hx hb d_De_isPrefix_27 (by decide) (fun c5 => ?_) (fun c5 => ?_)
        · have h := ok_f h c5
          refine lv_iconst (v := (0 : Int32)) hx hb d_De_isPrefix_34 (by decide) ?_
          exact w_De_isPrefix_35 o C0 q (0 : Int32) h H locs ls hw (lv_sub hl [] rfl)
        · have h := ok_t h c5
          exact w_De_isPrefix_30 o C0 q h H locs ls hw (lv_sub hl [] rfl)
def k_De_takePrefix_45 (q : z_Sg) : Option z_Sg :=
  some q
def k_De_takePrefix_16 (x1 : Int32) (t1 : Int32) (q : z_Sg) : Option z_Sg :=
  z_nm (z_sI q 6 t1) (fun q2 => if x1 = (102 : Int32) then (z_nm (z_sI q2 5 (1 : Int32)) (fun q6 => k_De_takePrefix_45 q6)) else (if (z_gI q2 6) = 0 then (z_nm (z_sI q2 10 x1) (fun q5 => k_De_takePrefix_45 q5)) else (k_De_takePrefix_45 q2)))
def f_De_takePrefix (x1 : Int32) (q : z_Sg) : Option z_Sg :=
  if (x1 &&& (240 : Int32)) = (64 : Int32) then (k_De_takePrefix_16 x1 x1 q) else (k_De_takePrefix_16 x1 (0 : Int32) q)
set_option maxHeartbeats 4000000 in
set_option maxRecDepth 100000 in
theorem w_De_takePrefix_45 {p : Program} {l : Launch} {e : Env} {s : State} {m : MethodId} {args : Array Value} {below : List Frame} {meth : Method} {c : Code} {D : va_G} {A : Nat → Prop} {ad : Nat → Nat} {ca : Nat → ClassId} (o : z_Sg) (C0 : z_cx z_RDe b_De_takePrefix 2 none D (z_Kt ca) A p s m args meth c) (q : z_Sg) (h : k_De_takePrefix_45 q = some o) : ∀ (H : Heap) (locs : List Loc) (ls : Array Slot), z_wd D (z_K ad ca q) A s H locs → lv_has ls 2 [] → W p l e (z_rm 0 0) s m args below meth c H locs 0 0 (z_qv below D (z_Kt ca) (z_K ad ca o) A s args) (F0 m 45 ls []) := by
  obtain ⟨hx, hb, hr, hlk, hml, hown, hts, hK, hA⟩ := id C0
  intro H locs ls hw hl
  have ho := Option.some.inj h
  subst ho
  exact z_rtv C0 hw d_De_takePrefix_45
set_option maxHeartbeats 4000000 in
set_option maxRecDepth 100000 in
theorem w_De_takePrefix_16 {p : Program} {l : Launch} {e : Env} {s : State} {m : MethodId} {args : Array Value} {below : List Frame} {meth : Method} {c : Code} {D : va_G} {A : Nat → Prop} {ad : Nat → Nat} {ca : Nat → ClassId} (o : z_Sg) (C0 : z_cx z_RDe b_De_takePrefix 2 none D (z_Kt ca) A p s m args meth c) (q : z_Sg) (x1 : Int32) (t1 : Int32) (h : k_De_takePrefix_16 x1 t1 q = some o) : ∀ (H : Heap) (locs : List Loc) (ls : Array Slot), z_wd D (z_K ad ca q) A s H locs → lv_has ls 2 [(0, .ref (ad 5)), (1, .int x1)] → W p l e (z_rm 0 0) s m args below meth c H locs 0 0 (z_qv below D (z_Kt ca) (z_K ad ca o) A s args) (F0 m 16 ls [.int t1, .ref (ad 5)]) := by
  obtain ⟨hx, hb, hr, hlk, hml, hown, hts, hK, hA⟩ := id C0
  intro H locs ls hw hl
  refine pfK_5_rex C0 hw fl_De_78 d_De_takePrefix_16 (fun H locs hw => ?_)
  obtain ⟨q2, eq2, h⟩ := ok_n h
  rw [← eq2] at hw
  refine lv_iload_n hx hb d_De_takePrefix_19 rfl (lv_at hl 1 rfl) ?_
  refine lv_bipush (v := (102 : Int32)) hx hb d_De_takePrefix_20 (by decide) ?_
  refine lv_icmp_ne (tgt := 33) hx hb d_De_takePrefix_22 (by decide) (fun c3 => ?_) (fun c3 => ?_)
  · have h := ok_f h c3
    refine lv_aload_n hx hb d_De_takePrefix_33 rfl (lv_at hl 0 rfl) ?_
    refine gfK_5_rex C0 hw fl_De_78 d_De_takePrefix_34 ?_
    refine lv_if_ne (tgt := 45) hx hb d_De_takePrefix_37 (by decide) (fun c4 => ?_) (fun c4 => ?_)
    · have h := ok_f h c4
      exact w_De_takePrefix_45 o C0 q2 h H locs ls hw (lv_sub hl [] rfl)
    · have h := ok_t h c4
      refine lv_aload_n hx hb d_De_takePrefix_40 rfl (lv_at hl 0 rfl) ?_
      refine lv_iload_n hx hb d_De_takePrefix_41 rfl (lv_at hl 1 rfl) ?_
      refine pfK_5_repeat C0 hw fl_De_75 d_De_takePrefix_42 (fun H locs hw => ?_)
      obtain ⟨q5, eq5, h⟩ := ok_n h
      rw [← eq5] at hw
      exact w_De_takePrefix_45 o C0 q5 h H locs ls hw (lv_sub hl [] rfl)
  · have h := ok_t h c3
    refine lv_aload_n hx hb d_De_takePrefix_25 rfl (lv_at hl 0 rfl) ?_
    refine lv_iconst (v := (1 : Int32)) hx hb d_De_takePrefix_26 (by decide) ?_
    refine pfK_5_shortened C0 hw (Or.inr rfl) fl_De_71 d_De_takePrefix_27 (fun H locs hw => ?_)
    obtain ⟨q6, eq6, h⟩ := ok_n h
    rw [← eq6] at hw
    refine lv_goto (tgt := 45) hx hb d_De_takePrefix_30 (by decide) ?_
    exact w_De_takePrefix_45 o C0 q6 h H locs ls hw (lv_sub hl [] rfl)
set_option maxHeartbeats 4000000 in
set_option maxRecDepth 100000 in
theorem c_De_takePrefix {l : Launch} {D : va_G} {ad : Nat → Nat} {ca : Nat → ClassId} (x1 : Int32) (q : z_Sg) (o : z_Sg) (h : f_De_takePrefix x1 q = some o) : z_cv l y_De_takePrefix b_De_takePrefix 2 none 0 0 D (z_Kt ca) (z_K ad ca q) (z_K ad ca o) [.ref (ad 5), .int x1] := by
  refine z_cv_of (own := z_RDe) (by decide) rfl ?_
  intro p e s m below meth c A C0 hw
  obtain ⟨hx, hb, hr, hlk, hml, hown, hts, hK, hA⟩ := id C0
  generalize hH : s.heap = H at hw ⊢
  generalize hlo : ([] : List Loc) = locs at hw ⊢
  refine z_entry (lv := [(0, .ref (ad 5)), (1, .int x1)]) (Nat.le_of_ble_eq_true rfl) rfl (fun ls hl => ?_)
  unfold f_De_takePrefix at h
  refine lv_aload_n hx hb d_De_takePrefix_0 rfl (lv_at hl 0 rfl) ?_
  refine lv_iload_n hx hb d_De_takePrefix_1 rfl (lv_at hl 1 rfl) ?_
  refine lv_sipush (v := (240 : Int32)) hx hb d_De_takePrefix_2 (by decide) ?_
  refine lv_iand hx hb d_De_takePrefix_5 ?_
  refine lv_bipush (v := (64 : Int32)) hx hb d_De_takePrefix_6 (by decide) ?_
  refine lv_icmp_ne (tgt := 15) hx hb d_De_takePrefix_8 (by decide) (fun c1 => ?_) (fun c1 => ?_)
  · have h := ok_f h c1
    refine lv_iconst (v := (0 : Int32)) hx hb d_De_takePrefix_15 (by decide) ?_
    exact w_De_takePrefix_16 o C0 q x1 (0 : Int32) h H locs ls hw (lv_sub hl [0, 1] rfl)
  · have h := ok_t h c1
    refine lv_iload_n hx hb d_De_takePrefix_11 rfl (lv_at hl 1 rfl) ?_
    refine lv_goto (tgt := 16) hx hb d_De_takePrefix_12 (by decide) ?_
    exact w_De_takePrefix_16 o C0 q x1 x1 h H locs ls hw (lv_sub hl [0, 1] rfl)
def k_De_fetchOpcode_67 (q : z_Sg) : Option (Int32 × z_Sg) :=
  z_nm (z_sI q 11 (z_gI q 4)) (fun q6 => if (z_gI q6 11) = (15 : Int32) then ((f_De_fetch q6).bind (fun r8 => z_nm (z_sI r8.2 11 ((256 : Int32) + (z_gI r8.2 4))) (fun q9 => some (r8.1, q9)))) else (some ((-1 : Int32), q6)))
def kb_De_fetchOpcode_22 (ih22 : Int32 × z_Sg → Option (Int32 × z_Sg)) (x1 : Int32) (q : z_Sg) : Option (Int32 × z_Sg) :=
  if (15 : Int32) < x1 then (k_De_fetchOpcode_67 q) else ((f_De_fetch q).bind (fun r10 => if r10.1 = (-1 : Int32) then ((f_De_isPrefix (z_gI r10.2 4) r10.2).bind (fun r12 => if r12 = 0 then (k_De_fetchOpcode_67 r10.2) else ((f_De_takePrefix (z_gI r10.2 4) r10.2).bind (fun r14 => z_nm (x1 + (1 : Int32)) (fun n15 => ih22 (n15, r14)))))) else (some (r10.1, r10.2))))
def k_De_fetchOpcode_22 (x1 : Int32) (q : z_Sg) : Option (Int32 × z_Sg) := z_lo (fun ih22 a => kb_De_fetchOpcode_22 ih22 a.1 a.2) 2000 (x1, q)
def f_De_fetchOpcode (q : z_Sg) : Option (Int32 × z_Sg) :=
  z_nm (z_sI q 3 (0 : Int32)) (fun q1 => z_nm (z_sI q1 5 (0 : Int32)) (fun q2 => z_nm (z_sI q2 10 (0 : Int32)) (fun q3 => z_nm (z_sI q3 6 (0 : Int32)) (fun q4 => k_De_fetchOpcode_22 (0 : Int32) q4))))
set_option maxHeartbeats 4000000 in
set_option maxRecDepth 100000 in
theorem w_De_fetchOpcode_67 {p : Program} {l : Launch} {e : Env} {s : State} {m : MethodId} {args : Array Value} {below : List Frame} {meth : Method} {c : Code} {D : va_G} {A : Nat → Prop} {ad : Nat → Nat} {ca : Nat → ClassId} (o : (Int32 × z_Sg)) (C0 : z_cx z_RDe b_De_fetchOpcode 3 (some .int) D (z_Kt ca) A p s m args meth c) (q : z_Sg) (h : k_De_fetchOpcode_67 q = some o) : ∀ (H : Heap) (locs : List Loc) (ls : Array Slot), z_wd D (z_K ad ca q) A s H locs → lv_has ls 3 [(0, .ref (ad 5))] → W p l e (z_rm 3 83) s m args below meth c H locs 0 0 (z_qi below D (z_Kt ca) (z_K ad ca o.2) A s args o.1) (F0 m 67 ls []) := by
  obtain ⟨hx, hb, hr, hlk, hml, hown, hts, hK, hA⟩ := id C0
  intro H locs ls hw hl
  refine lv_aload_n hx hb d_De_fetchOpcode_67 rfl (lv_at hl 0 rfl) ?_
  refine lv_aload_n hx hb d_De_fetchOpcode_68 rfl (lv_at hl 0 rfl) ?_
  refine gfK_5_last C0 hw fl_De_84 d_De_fetchOpcode_69 ?_
  refine pfK_5_opcode C0 hw fl_De_23 d_De_fetchOpcode_72 (fun H locs hw => ?_)
  obtain ⟨q6, eq6, h⟩ := ok_n h
  rw [← eq6] at hw
  refine lv_aload_n hx hb d_De_fetchOpcode_75 rfl (lv_at hl 0 rfl) ?_
  refine gfK_5_opcode C0 hw fl_De_23 d_De_fetchOpcode_76 ?_
  refine lv_bipush (v := (15 : Int32)) hx hb d_De_fetchOpcode_79 (by decide) ?_
  refine lv_icmp_eq (tgt := 86) hx hb d_De_fetchOpcode_81 (by decide) (fun c7 => ?_) (fun c7 => ?_)
  · have h := ok_t h c7
    refine lv_aload_n hx hb d_De_fetchOpcode_86 rfl (lv_at hl 0 rfl) ?_
    obtain ⟨r8, er8, h⟩ := ok_b h
    refine z_vi (rest := []) C0 hw (c_De_fetch q6 r8 er8) mw_De_fetch ml_De_81 5 rfl ⟨Nat.le_of_ble_eq_true rfl, Nat.le_of_ble_eq_true rfl⟩ ⟨Nat.le_refl 0, Nat.le_refl 0⟩ rfl hl.1 rfl (Nat.le_of_ble_eq_true rfl) d_De_fetchOpcode_87 (fun H locs hw => ?_)
    refine lv_istore_n (lv' := [(1, .int r8.1), (0, .ref (ad 5))]) hx hb d_De_fetchOpcode_90 rfl hl (by decide) rfl (fun ls hl => ?_)
    refine lv_aload_n hx hb d_De_fetchOpcode_91 rfl (lv_at hl 1 rfl) ?_
    refine lv_sipush (v := (256 : Int32)) hx hb d_De_fetchOpcode_92 (by decide) ?_
    refine lv_aload_n hx hb d_De_fetchOpcode_95 rfl (lv_at hl 1 rfl) ?_
    refine gfK_5_last C0 hw fl_De_84 d_De_fetchOpcode_96 ?_
    refine lv_iadd hx hb d_De_fetchOpcode_99 ?_
    refine pfK_5_opcode C0 hw fl_De_23 d_De_fetchOpcode_100 (fun H locs hw => ?_)
    obtain ⟨q9, eq9, h⟩ := ok_n h
    rw [← eq9] at hw
    refine lv_iload_n hx hb d_De_fetchOpcode_103 rfl (lv_at hl 0 rfl) ?_
    have ho := Option.some.inj h
    subst ho
    exact z_rti C0 hw d_De_fetchOpcode_104
  · have h := ok_f h c7
    refine lv_iconst (v := (-1 : Int32)) hx hb d_De_fetchOpcode_84 (by decide) ?_
    have ho := Option.some.inj h
    subst ho
    exact z_rti C0 hw d_De_fetchOpcode_85
set_option maxHeartbeats 4000000 in
set_option maxRecDepth 100000 in
theorem wb_De_fetchOpcode_22 {p : Program} {l : Launch} {e : Env} {s : State} {m : MethodId} {args : Array Value} {below : List Frame} {meth : Method} {c : Code} {D : va_G} {A : Nat → Prop} {ad : Nat → Nat} {ca : Nat → ClassId} (o : (Int32 × z_Sg)) (C0 : z_cx z_RDe b_De_fetchOpcode 3 (some .int) D (z_Kt ca) A p s m args meth c) (q : z_Sg) (ih22 : Int32 × z_Sg → Option (Int32 × z_Sg)) (hi22 : ∀ a : Int32 × z_Sg, ih22 a = some o → ∀ (H : Heap) (locs : List Loc) (ls : Array Slot), z_wd D (z_K ad ca a.2) A s H locs → lv_has ls 3 [(0, .ref (ad 5)), (1, .int a.1)] → W p l e (z_rm 3 83) s m args below meth c H locs 0 0 (z_qi below D (z_Kt ca) (z_K ad ca o.2) A s args o.1) (F0 m 22 ls [])) (x1 : Int32) (h : kb_De_fetchOpcode_22 ih22 x1 q = some o) : ∀ (H : Heap) (locs : List Loc) (ls : Array Slot), z_wd D (z_K ad ca q) A s H locs → lv_has ls 3 [(0, .ref (ad 5)), (1, .int x1)] → W p l e (z_rm 3 83) s m args below meth c H locs 0 0 (z_qi below D (z_Kt ca) (z_K ad ca o.2) A s args o.1) (F0 m 22 ls []) := by
  obtain ⟨hx, hb, hr, hlk, hml, hown, hts, hK, hA⟩ := id C0
  intro H locs ls hw hl
  refine lv_iload_n hx hb d_De_fetchOpcode_22 rfl (lv_at hl 1 rfl) ?_
  refine lv_bipush (v := (15 : Int32)) hx hb d_De_fetchOpcode_23 (by decide) ?_
  refine lv_icmp_gt (tgt := 67) hx hb d_De_fetchOpcode_25 (by decide) (fun c5 => ?_) (fun c5 => ?_)
  · have h := ok_t h c5
    exact w_De_fetchOpcode_67 o C0 q h H locs ls hw (lv_sub hl [0] rfl)
  · have h := ok_f h c5
    refine lv_aload_n hx hb d_De_fetchOpcode_28 rfl (lv_at hl 0 rfl) ?_
    obtain ⟨r10, er10, h⟩ := ok_b h
    refine z_vi (rest := []) C0 hw (c_De_fetch q r10 er10) mw_De_fetch ml_De_81 5 rfl ⟨Nat.le_of_ble_eq_true rfl, Nat.le_of_ble_eq_true rfl⟩ ⟨Nat.le_refl 0, Nat.le_refl 0⟩ rfl hl.1 rfl (Nat.le_of_ble_eq_true rfl) d_De_fetchOpcode_29 (fun H locs hw => ?_)
    refine lv_istore_n (lv' := [(2, .int r10.1), (0, .ref (ad 5)), (1, .int x1)]) hx hb d_De_fetchOpcode_32 rfl hl (by decide) rfl (fun ls hl => ?_)
    refine lv_iload_n hx hb d_De_fetchOpcode_33 rfl (lv_at hl 0 rfl) ?_
    refine lv_iconst (v := (-1 : Int32)) hx hb d_De_fetchOpcode_34 (by decide) ?_
    refine lv_icmp_eq (tgt := 40) hx hb d_De_fetchOpcode_35 (by decide) (fun c11 => ?_) (fun c11 => ?_)
    · have h := ok_t h c11
      refine lv_aload_n hx hb d_De_fetchOpcode_40 rfl (lv_at hl 1 rfl) ?_
      refine gfK_5_last C0 hw fl_De_84 d_De_fetchOpcode_41 ?_
      obtain ⟨r12, er12, h⟩ := ok_b h
      refine z_si (rest := []) C0 hw (c_De_isPrefix (z_gI r10.2 4) r10.2 r12 er12) mw_De_isPrefix ml_De_87 ⟨Nat.le_of_ble_eq_true rfl, Nat.le_of_ble_eq_true rfl⟩ ⟨Nat.le_refl 0, Nat.le_refl 0⟩ rfl hl.1 rfl (Nat.le_of_ble_eq_true rfl) d_De_fetchOpcode_44 (fun H locs hw => ?_)
      refine lv_if_ne (tgt := 53) hx hb d_De_fetchOpcode_47 (by decide) (fun c13 => ?_) (fun c13 => ?_)
      · have h := ok_f h c13
        refine lv_aload_n hx hb d_De_fetchOpcode_53 rfl (lv_at hl 1 rfl) ?_
        refine lv_aload_n hx hb d_De_fetchOpcode_54 rfl (lv_at hl 1 rfl) ?_
        refine gfK_5_last C0 hw fl_De_84 d_De_fetchOpcode_55 ?_
        obtain ⟨r14, er14, h⟩ := ok_b h
        refine z_vv (rest := []) C0 hw (c_De_takePrefix (z_gI r10.2 4) r10.2 r14 er14) mw_De_takePrefix ml_De_90 5 rfl ⟨Nat.le_of_ble_eq_true rfl, Nat.le_of_ble_eq_true rfl⟩ ⟨Nat.le_refl 0, Nat.le_refl 0⟩ rfl hl.1 rfl (Nat.le_of_ble_eq_true rfl) d_De_fetchOpcode_58 (fun H locs hw => ?_)
        obtain ⟨n15, en15, h⟩ := ok_n h
        refine lv_iinc (v := n15) (lv' := [(1, .int n15), (2, .int r10.1), (0, .ref (ad 5))]) hx hb d_De_fetchOpcode_61 hl (k := 2) rfl (by rw [en15]; rfl) (by decide) rfl (fun ls hl => ?_)
        refine lv_goto (tgt := 22) hx hb d_De_fetchOpcode_64 (by decide) ?_
        exact hi22 (n15, r14) h H locs ls hw (lv_sub hl [2, 0] rfl)
      · have h := ok_t h c13
        refine lv_goto (tgt := 67) hx hb d_De_fetchOpcode_50 (by decide) ?_
        exact w_De_fetchOpcode_67 o C0 r10.2 h H locs ls hw (lv_sub hl [1] rfl)
    · have h := ok_f h c11
      refine lv_iload_n hx hb d_De_fetchOpcode_38 rfl (lv_at hl 0 rfl) ?_
      have ho := Option.some.inj h
      subst ho
      exact z_rti C0 hw d_De_fetchOpcode_39
theorem w_De_fetchOpcode_22 {p : Program} {l : Launch} {e : Env} {s : State} {m : MethodId} {args : Array Value} {below : List Frame} {meth : Method} {c : Code} {D : va_G} {A : Nat → Prop} {ad : Nat → Nat} {ca : Nat → ClassId} (o : (Int32 × z_Sg)) (C0 : z_cx z_RDe b_De_fetchOpcode 3 (some .int) D (z_Kt ca) A p s m args meth c) (q : z_Sg) (x1 : Int32) (h : k_De_fetchOpcode_22 x1 q = some o) : ∀ (H : Heap) (locs : List Loc) (ls : Array Slot), z_wd D (z_K ad ca q) A s H locs → lv_has ls 3 [(0, .ref (ad 5)), (1, .int x1)] → W p l e (z_rm 3 83) s m args below meth c H locs 0 0 (z_qi below D (z_Kt ca) (z_K ad ca o.2) A s args o.1) (F0 m 22 ls []) := by
  have key : ∀ (n : Nat) (a : Int32 × z_Sg), z_lo (fun ih22 a => kb_De_fetchOpcode_22 ih22 a.1 a.2) n a = some o → ∀ (H : Heap) (locs : List Loc) (ls : Array Slot), z_wd D (z_K ad ca a.2) A s H locs → lv_has ls 3 [(0, .ref (ad 5)), (1, .int a.1)] → W p l e (z_rm 3 83) s m args below meth c H locs 0 0 (z_qi below D (z_Kt ca) (z_K ad ca o.2) A s args o.1) (F0 m 22 ls []) := by
    intro n
    induction n with
    | zero => intro a h; cases h
    | succ n ih => exact fun a h => wb_De_fetchOpcode_22 o C0 a.2 (z_lo (fun ih22 a => kb_De_fetchOpcode_22 ih22 a.1 a.2) n) ih a.1 h
  exact key 2000 (x1, q) h
set_option maxHeartbeats 4000000 in
set_option maxRecDepth 100000 in
theorem c_De_fetchOpcode {l : Launch} {D : va_G} {ad : Nat → Nat} {ca : Nat → ClassId} (q : z_Sg) (o : (Int32 × z_Sg)) (h : f_De_fetchOpcode q = some o) : z_ci l y_De_fetchOpcode b_De_fetchOpcode 3 (some .int) 3 83 D (z_Kt ca) (z_K ad ca q) (z_K ad ca o.2) [.ref (ad 5)] o.1 := by
  refine z_ci_of (own := z_RDe) (by decide) rfl ?_
  intro p e s m below meth c A C0 hw
  obtain ⟨hx, hb, hr, hlk, hml, hown, hts, hK, hA⟩ := id C0
  generalize hH : s.heap = H at hw ⊢
  generalize hlo : ([] : List Loc) = locs at hw ⊢
  refine z_entry (lv := [(0, .ref (ad 5))]) (Nat.le_of_ble_eq_true rfl) rfl (fun ls hl => ?_)
  unfold f_De_fetchOpcode at h
  refine lv_aload_n hx hb d_De_fetchOpcode_0 rfl (lv_at hl 0 rfl) ?_
  refine lv_iconst (v := (0 : Int32)) hx hb d_De_fetchOpcode_1 (by decide) ?_
  refine pfK_5_count C0 hw fl_De_65 d_De_fetchOpcode_2 (fun H locs hw => ?_)
  obtain ⟨q1, eq1, h⟩ := ok_n h
  rw [← eq1] at hw
  refine lv_aload_n hx hb d_De_fetchOpcode_5 rfl (lv_at hl 0 rfl) ?_
  refine lv_iconst (v := (0 : Int32)) hx hb d_De_fetchOpcode_6 (by decide) ?_
  refine pfK_5_shortened C0 hw (Or.inl rfl) fl_De_71 d_De_fetchOpcode_7 (fun H locs hw => ?_)
  obtain ⟨q2, eq2, h⟩ := ok_n h
  rw [← eq2] at hw
  refine lv_aload_n hx hb d_De_fetchOpcode_10 rfl (lv_at hl 0 rfl) ?_
  refine lv_iconst (v := (0 : Int32)) hx hb d_De_fetchOpcode_11 (by decide) ?_
  refine pfK_5_repeat C0 hw fl_De_75 d_De_fetchOpcode_12 (fun H locs hw => ?_)
  obtain ⟨q3, eq3, h⟩ := ok_n h
  rw [← eq3] at hw
  refine lv_aload_n hx hb d_De_fetchOpcode_15 rfl (lv_at hl 0 rfl) ?_
  refine lv_iconst (v := (0 : Int32)) hx hb d_De_fetchOpcode_16 (by decide) ?_
  refine pfK_5_rex C0 hw fl_De_78 d_De_fetchOpcode_17 (fun H locs hw => ?_)
  obtain ⟨q4, eq4, h⟩ := ok_n h
  rw [← eq4] at hw
  refine lv_iconst (v := (0 : Int32)) hx hb d_De_fetchOpcode_20 (by decide) ?_
  refine lv_istore_n (lv' := [(1, .int (0 : Int32)), (0, .ref (ad 5))]) hx hb d_De_fetchOpcode_21 rfl hl (by decide) rfl (fun ls hl => ?_)
  exact w_De_fetchOpcode_22 o C0 q4 (0 : Int32) h H locs ls hw (lv_sub hl [1, 0] rfl)
def k_De_formOfTwo_72 (q : z_Sg) : Option Int32 :=
  some (2 : Int32)
def k_De_formOfTwo_74 (q : z_Sg) : Option Int32 :=
  some (36 : Int32)
def k_De_formOfTwo_236 (q : z_Sg) : Option Int32 :=
  some (1 : Int32)
def k_De_formOfTwo_238 (q : z_Sg) : Option Int32 :=
  some (2 : Int32)
def f_De_formOfTwo (x0 : Int32) (q : z_Sg) : Option Int32 :=
  if (x0 &&& (248 : Int32)) = (64 : Int32) then (k_De_formOfTwo_72 q) else (if (x0 &&& (248 : Int32)) = (72 : Int32) then (k_De_formOfTwo_72 q) else (if (x0 &&& (248 : Int32)) = (128 : Int32) then (k_De_formOfTwo_74 q) else (if (x0 &&& (248 : Int32)) = (136 : Int32) then (k_De_formOfTwo_74 q) else (if (x0 &&& (248 : Int32)) = (144 : Int32) then (k_De_formOfTwo_72 q) else (if (x0 &&& (248 : Int32)) = (152 : Int32) then (k_De_formOfTwo_72 q) else (if (x0 &&& (248 : Int32)) = (200 : Int32) then (some (1 : Int32)) else (if x0 = (5 : Int32) then (k_De_formOfTwo_236 q) else (if x0 = (7 : Int32) then (k_De_formOfTwo_236 q) else (if x0 = (163 : Int32) then (k_De_formOfTwo_238 q) else (if x0 = (171 : Int32) then (k_De_formOfTwo_238 q) else (if x0 = (175 : Int32) then (k_De_formOfTwo_238 q) else (if x0 = (176 : Int32) then (k_De_formOfTwo_238 q) else (if x0 = (177 : Int32) then (k_De_formOfTwo_238 q) else (if x0 = (179 : Int32) then (k_De_formOfTwo_238 q) else (if x0 = (182 : Int32) then (k_De_formOfTwo_238 q) else (if x0 = (183 : Int32) then (k_De_formOfTwo_238 q) else (if x0 = (186 : Int32) then (some (10 : Int32)) else (if x0 = (187 : Int32) then (k_De_formOfTwo_238 q) else (if x0 = (188 : Int32) then (k_De_formOfTwo_238 q) else (if x0 = (189 : Int32) then (k_De_formOfTwo_238 q) else (if x0 = (190 : Int32) then (k_De_formOfTwo_238 q) else (if x0 = (191 : Int32) then (k_De_formOfTwo_238 q) else (if x0 = (192 : Int32) then (k_De_formOfTwo_238 q) else (if x0 = (193 : Int32) then (k_De_formOfTwo_238 q) else (some (0 : Int32))))))))))))))))))))))))))
set_option maxHeartbeats 4000000 in
set_option maxRecDepth 100000 in
theorem w_De_formOfTwo_72 {p : Program} {l : Launch} {e : Env} {s : State} {m : MethodId} {args : Array Value} {below : List Frame} {meth : Method} {c : Code} {D : va_G} {A : Nat → Prop} {ad : Nat → Nat} {ca : Nat → ClassId} (o : Int32) (C0 : z_cx z_RDe b_De_formOfTwo 1 (some .int) D (z_Kt ca) A p s m args meth c) (q : z_Sg) (h : k_De_formOfTwo_72 q = some o) : ∀ (H : Heap) (locs : List Loc) (ls : Array Slot), z_wd D (z_K ad ca q) A s H locs → lv_has ls 1 [] → W p l e (z_rm 0 0) s m args below meth c H locs 0 0 (z_qi below D (z_Kt ca) (z_K ad ca q) A s args o) (F0 m 72 ls []) := by
  obtain ⟨hx, hb, hr, hlk, hml, hown, hts, hK, hA⟩ := id C0
  intro H locs ls hw hl
  refine lv_iconst (v := (2 : Int32)) hx hb d_De_formOfTwo_72 (by decide) ?_
  have ho := Option.some.inj h
  subst ho
  exact z_rti C0 hw d_De_formOfTwo_73
set_option maxHeartbeats 4000000 in
set_option maxRecDepth 100000 in
theorem w_De_formOfTwo_74 {p : Program} {l : Launch} {e : Env} {s : State} {m : MethodId} {args : Array Value} {below : List Frame} {meth : Method} {c : Code} {D : va_G} {A : Nat → Prop} {ad : Nat → Nat} {ca : Nat → ClassId} (o : Int32) (C0 : z_cx z_RDe b_De_formOfTwo 1 (some .int) D (z_Kt ca) A p s m args meth c) (q : z_Sg) (h : k_De_formOfTwo_74 q = some o) : ∀ (H : Heap) (locs : List Loc) (ls : Array Slot), z_wd D (z_K ad ca q) A s H locs → lv_has ls 1 [] → W p l e (z_rm 0 0) s m args below meth c H locs 0 0 (z_qi below D (z_Kt ca) (z_K ad ca q) A s args o) (F0 m 74 ls []) := by
  obtain ⟨hx, hb, hr, hlk, hml, hown, hts, hK, hA⟩ := id C0
  intro H locs ls hw hl
  refine lv_bipush (v := (36 : Int32)) hx hb d_De_formOfTwo_74 (by decide) ?_
  have ho := Option.some.inj h
  subst ho
  exact z_rti C0 hw d_De_formOfTwo_76
set_option maxHeartbeats 4000000 in
set_option maxRecDepth 100000 in
theorem w_De_formOfTwo_236 {p : Program} {l : Launch} {e : Env} {s : State} {m : MethodId} {args : Array Value} {below : List Frame} {meth : Method} {c : Code} {D : va_G} {A : Nat → Prop} {ad : Nat → Nat} {ca : Nat → ClassId} (o : Int32) (C0 : z_cx z_RDe b_De_formOfTwo 1 (some .int) D (z_Kt ca) A p s m args meth c) (q : z_Sg) (h : k_De_formOfTwo_236 q = some o) : ∀ (H : Heap) (locs : List Loc) (ls : Array Slot), z_wd D (z_K ad ca q) A s H locs → lv_has ls 1 [] → W p l e (z_rm 0 0) s m args below meth c H locs 0 0 (z_qi below D (z_Kt ca) (z_K ad ca q) A s args o) (F0 m 236 ls []) := by
  obtain ⟨hx, hb, hr, hlk, hml, hown, hts, hK, hA⟩ := id C0
  intro H locs ls hw hl
  refine lv_iconst (v := (1 : Int32)) hx hb d_De_formOfTwo_236 (by decide) ?_
  have ho := Option.some.inj h
  subst ho
  exact z_rti C0 hw d_De_formOfTwo_237
set_option maxHeartbeats 4000000 in
set_option maxRecDepth 100000 in
theorem w_De_formOfTwo_238 {p : Program} {l : Launch} {e : Env} {s : State} {m : MethodId} {args : Array Value} {below : List Frame} {meth : Method} {c : Code} {D : va_G} {A : Nat → Prop} {ad : Nat → Nat} {ca : Nat → ClassId} (o : Int32) (C0 : z_cx z_RDe b_De_formOfTwo 1 (some .int) D (z_Kt ca) A p s m args meth c) (q : z_Sg) (h : k_De_formOfTwo_238 q = some o) : ∀ (H : Heap) (locs : List Loc) (ls : Array Slot), z_wd D (z_K ad ca q) A s H locs → lv_has ls 1 [] → W p l e (z_rm 0 0) s m args below meth c H locs 0 0 (z_qi below D (z_Kt ca) (z_K ad ca q) A s args o) (F0 m 238 ls []) := by
  obtain ⟨hx, hb, hr, hlk, hml, hown, hts, hK, hA⟩ := id C0
  intro H locs ls hw hl
  refine lv_iconst (v := (2 : Int32)) hx hb d_De_formOfTwo_238 (by decide) ?_
  have ho := Option.some.inj h
  subst ho
  exact z_rti C0 hw d_De_formOfTwo_239
set_option maxHeartbeats 4000000 in
set_option maxRecDepth 100000 in
theorem c_De_formOfTwo {l : Launch} {D : va_G} {ad : Nat → Nat} {ca : Nat → ClassId} (x0 : Int32) (q : z_Sg) (o : Int32) (h : f_De_formOfTwo x0 q = some o) : z_ci l y_De_formOfTwo b_De_formOfTwo 1 (some .int) 0 0 D (z_Kt ca) (z_K ad ca q) (z_K ad ca q) [.int x0] o := by
  refine z_ci_of (own := z_RDe) (by decide) rfl ?_
  intro p e s m below meth c A C0 hw
  obtain ⟨hx, hb, hr, hlk, hml, hown, hts, hK, hA⟩ := id C0
  generalize hH : s.heap = H at hw ⊢
  generalize hlo : ([] : List Loc) = locs at hw ⊢
  refine z_entry (lv := [(0, .int x0)]) (Nat.le_of_ble_eq_true rfl) rfl (fun ls hl => ?_)
  unfold f_De_formOfTwo at h
  refine lv_iload_n hx hb d_De_formOfTwo_0 rfl (lv_at hl 0 rfl) ?_
  refine lv_sipush (v := (248 : Int32)) hx hb d_De_formOfTwo_1 (by decide) ?_
  refine lv_iand hx hb d_De_formOfTwo_4 ?_
  by_cases c1 : (x0 &&& (248 : Int32)) = (64 : Int32)
  · have h := ok_t h c1
    refine lv_lookup (off := 67) (tgt := 72) hx hb d_De_formOfTwo_5 (by decide) (by rw [c1]; rfl) (by decide) ?_
    exact w_De_formOfTwo_72 o C0 q h H locs ls hw (lv_sub hl [] rfl)
  have h := ok_f h c1
  by_cases c2 : (x0 &&& (248 : Int32)) = (72 : Int32)
  · have h := ok_t h c2
    refine lv_lookup (off := 67) (tgt := 72) hx hb d_De_formOfTwo_5 (by decide) (by rw [c2]; rfl) (by decide) ?_
    exact w_De_formOfTwo_72 o C0 q h H locs ls hw (lv_sub hl [] rfl)
  have h := ok_f h c2
  by_cases c3 : (x0 &&& (248 : Int32)) = (128 : Int32)
  · have h := ok_t h c3
    refine lv_lookup (off := 69) (tgt := 74) hx hb d_De_formOfTwo_5 (by decide) (by rw [c3]; rfl) (by decide) ?_
    exact w_De_formOfTwo_74 o C0 q h H locs ls hw (lv_sub hl [] rfl)
  have h := ok_f h c3
  by_cases c4 : (x0 &&& (248 : Int32)) = (136 : Int32)
  · have h := ok_t h c4
    refine lv_lookup (off := 69) (tgt := 74) hx hb d_De_formOfTwo_5 (by decide) (by rw [c4]; rfl) (by decide) ?_
    exact w_De_formOfTwo_74 o C0 q h H locs ls hw (lv_sub hl [] rfl)
  have h := ok_f h c4
  by_cases c5 : (x0 &&& (248 : Int32)) = (144 : Int32)
  · have h := ok_t h c5
    refine lv_lookup (off := 67) (tgt := 72) hx hb d_De_formOfTwo_5 (by decide) (by rw [c5]; rfl) (by decide) ?_
    exact w_De_formOfTwo_72 o C0 q h H locs ls hw (lv_sub hl [] rfl)
  have h := ok_f h c5
  by_cases c6 : (x0 &&& (248 : Int32)) = (152 : Int32)
  · have h := ok_t h c6
    refine lv_lookup (off := 67) (tgt := 72) hx hb d_De_formOfTwo_5 (by decide) (by rw [c6]; rfl) (by decide) ?_
    exact w_De_formOfTwo_72 o C0 q h H locs ls hw (lv_sub hl [] rfl)
  have h := ok_f h c6
  by_cases c7 : (x0 &&& (248 : Int32)) = (200 : Int32)
  · have h := ok_t h c7
    refine lv_lookup (off := 72) (tgt := 77) hx hb d_De_formOfTwo_5 (by decide) (by rw [c7]; rfl) (by decide) ?_
    refine lv_iconst (v := (1 : Int32)) hx hb d_De_formOfTwo_77 (by decide) ?_
    have ho := Option.some.inj h
    subst ho
    exact z_rti C0 hw d_De_formOfTwo_78
  have h := ok_f h c7
  refine lv_lookup (off := 74) (tgt := 79) hx hb d_De_formOfTwo_5 (by decide) (by show Op.lookupswitch.offset [(64, 67), (72, 67), (128, 69), (136, 69), (144, 67), (152, 67), (200, 72)] _ _ = _; rw [lv_osw (a := 64) c1 rfl, lv_osw (a := 72) c2 rfl, lv_osw (a := 128) c3 rfl, lv_osw (a := 136) c4 rfl, lv_osw (a := 144) c5 rfl, lv_osw (a := 152) c6 rfl, lv_osw (a := 200) c7 rfl]; rfl) (by decide) ?_
  refine lv_iload_n hx hb d_De_formOfTwo_79 rfl (lv_at hl 0 rfl) ?_
  by_cases c8 : x0 = (5 : Int32)
  · have h := ok_t h c8
    refine lv_lookup (off := 156) (tgt := 236) hx hb d_De_formOfTwo_80 (by decide) (by rw [c8]; rfl) (by decide) ?_
    exact w_De_formOfTwo_236 o C0 q h H locs ls hw (lv_sub hl [] rfl)
  have h := ok_f h c8
  by_cases c9 : x0 = (7 : Int32)
  · have h := ok_t h c9
    refine lv_lookup (off := 156) (tgt := 236) hx hb d_De_formOfTwo_80 (by decide) (by rw [c9]; rfl) (by decide) ?_
    exact w_De_formOfTwo_236 o C0 q h H locs ls hw (lv_sub hl [] rfl)
  have h := ok_f h c9
  by_cases c10 : x0 = (163 : Int32)
  · have h := ok_t h c10
    refine lv_lookup (off := 158) (tgt := 238) hx hb d_De_formOfTwo_80 (by decide) (by rw [c10]; rfl) (by decide) ?_
    exact w_De_formOfTwo_238 o C0 q h H locs ls hw (lv_sub hl [] rfl)
  have h := ok_f h c10
  by_cases c11 : x0 = (171 : Int32)
  · have h := ok_t h c11
    refine lv_lookup (off := 158) (tgt := 238) hx hb d_De_formOfTwo_80 (by decide) (by rw [c11]; rfl) (by decide) ?_
    exact w_De_formOfTwo_238 o C0 q h H locs ls hw (lv_sub hl [] rfl)
  have h := ok_f h c11
  by_cases c12 : x0 = (175 : Int32)
  · have h := ok_t h c12
    refine lv_lookup (off := 158) (tgt := 238) hx hb d_De_formOfTwo_80 (by decide) (by rw [c12]; rfl) (by decide) ?_
    exact w_De_formOfTwo_238 o C0 q h H locs ls hw (lv_sub hl [] rfl)
  have h := ok_f h c12
  by_cases c13 : x0 = (176 : Int32)
  · have h := ok_t h c13
    refine lv_lookup (off := 158) (tgt := 238) hx hb d_De_formOfTwo_80 (by decide) (by rw [c13]; rfl) (by decide) ?_
    exact w_De_formOfTwo_238 o C0 q h H locs ls hw (lv_sub hl [] rfl)
  have h := ok_f h c13
  by_cases c14 : x0 = (177 : Int32)
  · have h := ok_t h c14
    refine lv_lookup (off := 158) (tgt := 238) hx hb d_De_formOfTwo_80 (by decide) (by rw [c14]; rfl) (by decide) ?_
    exact w_De_formOfTwo_238 o C0 q h H locs ls hw (lv_sub hl [] rfl)
  have h := ok_f h c14
  by_cases c15 : x0 = (179 : Int32)
  · have h := ok_t h c15
    refine lv_lookup (off := 158) (tgt := 238) hx hb d_De_formOfTwo_80 (by decide) (by rw [c15]; rfl) (by decide) ?_
    exact w_De_formOfTwo_238 o C0 q h H locs ls hw (lv_sub hl [] rfl)
  have h := ok_f h c15
  by_cases c16 : x0 = (182 : Int32)
  · have h := ok_t h c16
    refine lv_lookup (off := 158) (tgt := 238) hx hb d_De_formOfTwo_80 (by decide) (by rw [c16]; rfl) (by decide) ?_
    exact w_De_formOfTwo_238 o C0 q h H locs ls hw (lv_sub hl [] rfl)
  have h := ok_f h c16
  by_cases c17 : x0 = (183 : Int32)
  · have h := ok_t h c17
    refine lv_lookup (off := 158) (tgt := 238) hx hb d_De_formOfTwo_80 (by decide) (by rw [c17]; rfl) (by decide) ?_
    exact w_De_formOfTwo_238 o C0 q h H locs ls hw (lv_sub hl [] rfl)
  have h := ok_f h c17
  by_cases c18 : x0 = (186 : Int32)
  · have h := ok_t h c18
    refine lv_lookup (off := 160) (tgt := 240) hx hb d_De_formOfTwo_80 (by decide) (by rw [c18]; rfl) (by decide) ?_
    refine lv_bipush (v := (10 : Int32)) hx hb d_De_formOfTwo_240 (by decide) ?_
    have ho := Option.some.inj h
    subst ho
    exact z_rti C0 hw d_De_formOfTwo_242
  have h := ok_f h c18
  by_cases c19 : x0 = (187 : Int32)
  · have h := ok_t h c19
    refine lv_lookup (off := 158) (tgt := 238) hx hb d_De_formOfTwo_80 (by decide) (by rw [c19]; rfl) (by decide) ?_
    exact w_De_formOfTwo_238 o C0 q h H locs ls hw (lv_sub hl [] rfl)
  have h := ok_f h c19
  by_cases c20 : x0 = (188 : Int32)
  · have h := ok_t h c20
    refine lv_lookup (off := 158) (tgt := 238) hx hb d_De_formOfTwo_80 (by decide) (by rw [c20]; rfl) (by decide) ?_
    exact w_De_formOfTwo_238 o C0 q h H locs ls hw (lv_sub hl [] rfl)
  have h := ok_f h c20
  by_cases c21 : x0 = (189 : Int32)
  · have h := ok_t h c21
    refine lv_lookup (off := 158) (tgt := 238) hx hb d_De_formOfTwo_80 (by decide) (by rw [c21]; rfl) (by decide) ?_
    exact w_De_formOfTwo_238 o C0 q h H locs ls hw (lv_sub hl [] rfl)
  have h := ok_f h c21
  by_cases c22 : x0 = (190 : Int32)
  · have h := ok_t h c22
    refine lv_lookup (off := 158) (tgt := 238) hx hb d_De_formOfTwo_80 (by decide) (by rw [c22]; rfl) (by decide) ?_
    exact w_De_formOfTwo_238 o C0 q h H locs ls hw (lv_sub hl [] rfl)
  have h := ok_f h c22
  by_cases c23 : x0 = (191 : Int32)
  · have h := ok_t h c23
    refine lv_lookup (off := 158) (tgt := 238) hx hb d_De_formOfTwo_80 (by decide) (by rw [c23]; rfl) (by decide) ?_
    exact w_De_formOfTwo_238 o C0 q h H locs ls hw (lv_sub hl [] rfl)
  have h := ok_f h c23
  by_cases c24 : x0 = (192 : Int32)
  · have h := ok_t h c24
    refine lv_lookup (off := 158) (tgt := 238) hx hb d_De_formOfTwo_80 (by decide) (by rw [c24]; rfl) (by decide) ?_
    exact w_De_formOfTwo_238 o C0 q h H locs ls hw (lv_sub hl [] rfl)
  have h := ok_f h c24
  by_cases c25 : x0 = (193 : Int32)
  · have h := ok_t h c25
    refine lv_lookup (off := 158) (tgt := 238) hx hb d_De_formOfTwo_80 (by decide) (by rw [c25]; rfl) (by decide) ?_
    exact w_De_formOfTwo_238 o C0 q h H locs ls hw (lv_sub hl [] rfl)
  have h := ok_f h c25
  refine lv_lookup (off := 163) (tgt := 243) hx hb d_De_formOfTwo_80 (by decide) (by show Op.lookupswitch.offset [(5, 156), (7, 156), (163, 158), (171, 158), (175, 158), (176, 158), (177, 158), (179, 158), (182, 158), (183, 158), (186, 160), (187, 158), (188, 158), (189, 158), (190, 158), (191, 158), (192, 158), (193, 158)] _ _ = _; rw [lv_osw (a := 5) c8 rfl, lv_osw (a := 7) c9 rfl, lv_osw (a := 163) c10 rfl, lv_osw (a := 171) c11 rfl, lv_osw (a := 175) c12 rfl, lv_osw (a := 176) c13 rfl, lv_osw (a := 177) c14 rfl, lv_osw (a := 179) c15 rfl, lv_osw (a := 182) c16 rfl, lv_osw (a := 183) c17 rfl, lv_osw (a := 186) c18 rfl, lv_osw (a := 187) c19 rfl, lv_osw (a := 188) c20 rfl, lv_osw (a := 189) c21 rfl, lv_osw (a := 190) c22 rfl, lv_osw (a := 191) c23 rfl, lv_osw (a := 192) c24 rfl, lv_osw (a := 193) c25 rfl]; rfl) (by decide) ?_
  refine lv_iconst (v := (0 : Int32)) hx hb d_De_formOfTwo_243 (by decide) ?_
  have ho := Option.some.inj h
  subst ho
  exact z_rti C0 hw d_De_formOfTwo_244
def k_De_sizeV_27 (t0 : Int32) (q : z_Sg) : Option Int32 :=
  some t0
def f_De_sizeV (q : z_Sg) : Option Int32 :=
  if ((z_gI q 6) &&& (8 : Int32)) = 0 then (if (z_gI q 5) = 0 then (k_De_sizeV_27 (4 : Int32) q) else (k_De_sizeV_27 (2 : Int32) q)) else (k_De_sizeV_27 (8 : Int32) q)
set_option maxHeartbeats 4000000 in
set_option maxRecDepth 100000 in
theorem w_De_sizeV_27 {p : Program} {l : Launch} {e : Env} {s : State} {m : MethodId} {args : Array Value} {below : List Frame} {meth : Method} {c : Code} {D : va_G} {A : Nat → Prop} {ad : Nat → Nat} {ca : Nat → ClassId} (o : Int32) (C0 : z_cx z_RDe b_De_sizeV 1 (some .int) D (z_Kt ca) A p s m args meth c) (q : z_Sg) (t0 : Int32) (h : k_De_sizeV_27 t0 q = some o) : ∀ (H : Heap) (locs : List Loc) (ls : Array Slot), z_wd D (z_K ad ca q) A s H locs → lv_has ls 1 [] → W p l e (z_rm 0 0) s m args below meth c H locs 0 0 (z_qi below D (z_Kt ca) (z_K ad ca q) A s args o) (F0 m 27 ls [.int t0]) := by
  obtain ⟨hx, hb, hr, hlk, hml, hown, hts, hK, hA⟩ := id C0
  intro H locs ls hw hl
  have ho := Option.some.inj h
  subst ho
  exact z_rti C0 hw d_De_sizeV_27
set_option maxHeartbeats 4000000 in
set_option maxRecDepth 100000 in
theorem c_De_sizeV {l : Launch} {D : va_G} {ad : Nat → Nat} {ca : Nat → ClassId} (q : z_Sg) (o : Int32) (h : f_De_sizeV q = some o) : z_ci l y_De_sizeV b_De_sizeV 1 (some .int) 0 0 D (z_Kt ca) (z_K ad ca q) (z_K ad ca q) [.ref (ad 5)] o := by
  refine z_ci_of (own := z_RDe) (by decide) rfl ?_
  intro p e s m below meth c A C0 hw
  obtain ⟨hx, hb, hr, hlk, hml, hown, hts, hK, hA⟩ := id C0
  generalize hH : s.heap = H at hw ⊢
  generalize hlo : ([] : List Loc) = locs at hw ⊢
  refine z_entry (lv := [(0, .ref (ad 5))]) (Nat.le_of_ble_eq_true rfl) rfl (fun ls hl => ?_)
  unfold f_De_sizeV at h
  refine lv_aload_n hx hb d_De_sizeV_0 rfl (lv_at hl 0 rfl) ?_
  refine gfK_5_rex C0 hw fl_De_78 d_De_sizeV_1 ?_
  refine lv_bipush (v := (8 : Int32)) hx hb d_De_sizeV_4 (by decide) ?_
  refine lv_iand hx hb d_De_sizeV_6 ?_
  refine lv_if_eq (tgt := 15) hx hb d_De_sizeV_7 (by decide) (fun c1 => ?_) (fun c1 => ?_)
  · have h := ok_t h c1
    refine lv_aload_n hx hb d_De_sizeV_15 rfl (lv_at hl 0 rfl) ?_
    refine gfK_5_shortened C0 hw fl_De_71 d_De_sizeV_16 ?_
    refine lv_if_eq (tgt := 26) hx hb d_De_sizeV_19 (by decide) (fun c2 => ?_) (fun c2 => ?_)
    · have h := ok_t h c2
      refine lv_iconst (v := (4 : Int32)) hx hb d_De_sizeV_26 (by decide) ?_
      exact w_De_sizeV_27 o C0 q (4 : Int32) h H locs ls hw (lv_sub hl [] rfl)
    · have h := ok_f h c2
      refine lv_iconst (v := (2 : Int32)) hx hb d_De_sizeV_22 (by decide) ?_
      refine lv_goto (tgt := 27) hx hb d_De_sizeV_23 (by decide) ?_
      exact w_De_sizeV_27 o C0 q (2 : Int32) h H locs ls hw (lv_sub hl [] rfl)
  · have h := ok_f h c1
    refine lv_bipush (v := (8 : Int32)) hx hb d_De_sizeV_10 (by decide) ?_
    refine lv_goto (tgt := 27) hx hb d_De_sizeV_12 (by decide) ?_
    exact w_De_sizeV_27 o C0 q (8 : Int32) h H locs ls hw (lv_sub hl [] rfl)
def k_De_isToldInSize_51 (t0 : Int32) (q : z_Sg) : Option Int32 :=
  z_gd (z_bo t0) (some t0)
def k_De_isToldInSize_46 (q : z_Sg) : Option Int32 :=
  k_De_isToldInSize_51 (1 : Int32) q
def k_De_isToldInSize_33 (t0 : Int32) (q : z_Sg) : Option Int32 :=
  if t0 = 0 then (k_De_isToldInSize_46 q) else ((f_De_sizeV q).bind (fun r5 => if r5 = (2 : Int32) then (k_De_isToldInSize_51 (0 : Int32) q) else (k_De_isToldInSize_46 q)))
def k_De_isToldInSize_15 (q : z_Sg) : Option Int32 :=
  if ((z_gI q 11) &&& (-8 : Int32)) = (456 : Int32) then (k_De_isToldInSize_33 (1 : Int32) q) else (k_De_isToldInSize_33 (0 : Int32) q)
def f_De_isToldInSize (x1 : Int32) (q : z_Sg) : Option Int32 :=
  if (z_gI q 5) = 0 then (k_De_isToldInSize_15 q) else (if (x1 &&& (4 : Int32)) = 0 then (k_De_isToldInSize_15 q) else (some (0 : Int32)))
set_option maxHeartbeats 4000000 in
set_option maxRecDepth 100000 in
theorem w_De_isToldInSize_51 {p : Program} {l : Launch} {e : Env} {s : State} {m : MethodId} {args : Array Value} {below : List Frame} {meth : Method} {c : Code} {D : va_G} {A : Nat → Prop} {ad : Nat → Nat} {ca : Nat → ClassId} (o : Int32) (C0 : z_cx z_RDe b_De_isToldInSize 3 (some .boolean) D (z_Kt ca) A p s m args meth c) (q : z_Sg) (t0 : Int32) (h : k_De_isToldInSize_51 t0 q = some o) : ∀ (H : Heap) (locs : List Loc) (ls : Array Slot), z_wd D (z_K ad ca q) A s H locs → lv_has ls 3 [] → W p l e (z_rm 1 20) s m args below meth c H locs 0 0 (z_qi below D (z_Kt ca) (z_K ad ca q) A s args o) (F0 m 51 ls [.int t0]) := by
  obtain ⟨hx, hb, hr, hlk, hml, hown, hts, hK, hA⟩ := id C0
  intro H locs ls hw hl
  obtain ⟨b4, h⟩ := ok_G h
  have ho := Option.some.inj h
  subst ho
  exact z_rtz C0 hw (z_bo_n b4) d_De_isToldInSize_51
set_option maxHeartbeats 4000000 in
set_option maxRecDepth 100000 in
theorem w_De_isToldInSize_46 {p : Program} {l : Launch} {e : Env} {s : State} {m : MethodId} {args : Array Value} {below : List Frame} {meth : Method} {c : Code} {D : va_G} {A : Nat → Prop} {ad : Nat → Nat} {ca : Nat → ClassId} (o : Int32) (C0 : z_cx z_RDe b_De_isToldInSize 3 (some .boolean) D (z_Kt ca) A p s m args meth c) (q : z_Sg) (h : k_De_isToldInSize_46 q = some o) : ∀ (H : Heap) (locs : List Loc) (ls : Array Slot), z_wd D (z_K ad ca q) A s H locs → lv_has ls 3 [] → W p l e (z_rm 1 20) s m args below meth c H locs 0 0 (z_qi below D (z_Kt ca) (z_K ad ca q) A s args o) (F0 m 46 ls []) := by
  obtain ⟨hx, hb, hr, hlk, hml, hown, hts, hK, hA⟩ := id C0
  intro H locs ls hw hl
  refine lv_iconst (v := (1 : Int32)) hx hb d_De_isToldInSize_46 (by decide) ?_
  refine lv_goto (tgt := 51) hx hb d_De_isToldInSize_47 (by decide) ?_
  exact w_De_isToldInSize_51 o C0 q (1 : Int32) h H locs ls hw (lv_sub hl [] rfl)
set_option maxHeartbeats 4000000 in
set_option maxRecDepth 100000 in
theorem w_De_isToldInSize_33 {p : Program} {l : Launch} {e : Env} {s : State} {m : MethodId} {args : Array Value} {below : List Frame} {meth : Method} {c : Code} {D : va_G} {A : Nat → Prop} {ad : Nat → Nat} {ca : Nat → ClassId} (o : Int32) (C0 : z_cx z_RDe b_De_isToldInSize 3 (some .boolean) D (z_Kt ca) A p s m args meth c) (q : z_Sg) (t0 : Int32) (h : k_De_isToldInSize_33 t0 q = some o) : ∀ (H : Heap) (locs : List Loc) (ls : Array Slot), z_wd D (z_K ad ca q) A s H locs → lv_has ls 3 [(0, .ref (ad 5))] → W p l e (z_rm 1 20) s m args below meth c H locs 0 0 (z_qi below D (z_Kt ca) (z_K ad ca q) A s args o) (F0 m 33 ls [.int t0]) := by
  obtain ⟨hx, hb, hr, hlk, hml, hown, hts, hK, hA⟩ := id C0
  intro H locs ls hw hl
  refine lv_istore_n (lv' := [(2, .int t0), (0, .ref (ad 5))]) hx hb d_De_isToldInSize_33 rfl hl (by decide) rfl (fun ls hl => ?_)
  refine lv_iload_n hx hb d_De_isToldInSize_34 rfl (lv_at hl 0 rfl) ?_
  refine lv_if_eq (tgt := 46) hx hb d_De_isToldInSize_35 (by decide) (fun c3 => ?_) (fun c3 => ?_)
  · have h := ok_t h c3
    exact w_De_isToldInSize_46 o C0 q h H locs ls hw (lv_sub hl [] rfl)
  · have h := ok_f h c3
    refine lv_aload_n hx hb d_De_isToldInSize_38 rfl (lv_at hl 1 rfl) ?_
    obtain ⟨r5, er5, h⟩ := ok_b h
    refine z_vi (rest := []) C0 hw (c_De_sizeV q r5 er5) mw_De_sizeV ml_De_100 5 rfl ⟨Nat.le_of_ble_eq_true rfl, Nat.le_of_ble_eq_true rfl⟩ ⟨Nat.le_refl 0, Nat.le_refl 0⟩ rfl hl.1 rfl (Nat.le_of_ble_eq_true rfl) d_De_isToldInSize_39 (fun H locs hw => ?_)
    refine lv_iconst (v := (2 : Int32)) hx hb d_De_isToldInSize_42 (by decide) ?_
    refine lv_icmp_eq (tgt := 50) hx hb d_De_isToldInSize_43 (by decide) (fun c6 => ?_) (fun c6 => ?_)
    · have h := ok_t h c6
      refine lv_iconst (v := (0 : Int32)) hx hb d_De_isToldInSize_50 (by decide) ?_
      exact w_De_isToldInSize_51 o C0 q (0 : Int32) h H locs ls hw (lv_sub hl [] rfl)
    · have h := ok_f h c6
      exact w_De_isToldInSize_46 o C0 q h H locs ls hw (lv_sub hl [] rfl)
set_option maxHeartbeats 4000000 in
set_option maxRecDepth 100000 in
theorem w_De_isToldInSize_15 {p : Program} {l : Launch} {e : Env} {s : State} {m : MethodId} {args : Array Value} {below : List Frame} {meth : Method} {c : Code} {D : va_G} {A : Nat → Prop} {ad : Nat → Nat} {ca : Nat → ClassId} (o : Int32) (C0 : z_cx z_RDe b_De_isToldInSize 3 (some .boolean) D (z_Kt ca) A p s m args meth c) (q : z_Sg) (h : k_De_isToldInSize_15 q = some o) : ∀ (H : Heap) (locs : List Loc) (ls : Array Slot), z_wd D (z_K ad ca q) A s H locs → lv_has ls 3 [(0, .ref (ad 5))] → W p l e (z_rm 1 20) s m args below meth c H locs 0 0 (z_qi below D (z_Kt ca) (z_K ad ca q) A s args o) (F0 m 15 ls []) := by
  obtain ⟨hx, hb, hr, hlk, hml, hown, hts, hK, hA⟩ := id C0
  intro H locs ls hw hl
  refine lv_aload_n hx hb d_De_isToldInSize_15 rfl (lv_at hl 0 rfl) ?_
  refine gfK_5_opcode C0 hw fl_De_23 d_De_isToldInSize_16 ?_
  refine lv_bipush (v := (-8 : Int32)) hx hb d_De_isToldInSize_19 (by decide) ?_
  refine lv_iand hx hb d_De_isToldInSize_21 ?_
  refine lv_sipush (v := (456 : Int32)) hx hb d_De_isToldInSize_22 (by decide) ?_
  refine lv_icmp_ne (tgt := 32) hx hb d_De_isToldInSize_25 (by decide) (fun c2 => ?_) (fun c2 => ?_)
  · have h := ok_f h c2
    refine lv_iconst (v := (0 : Int32)) hx hb d_De_isToldInSize_32 (by decide) ?_
    exact w_De_isToldInSize_33 o C0 q (0 : Int32) h H locs ls hw (lv_sub hl [0] rfl)
  · have h := ok_t h c2
    refine lv_iconst (v := (1 : Int32)) hx hb d_De_isToldInSize_28 (by decide) ?_
    refine lv_goto (tgt := 33) hx hb d_De_isToldInSize_29 (by decide) ?_
    exact w_De_isToldInSize_33 o C0 q (1 : Int32) h H locs ls hw (lv_sub hl [0] rfl)
set_option maxHeartbeats 4000000 in
set_option maxRecDepth 100000 in
theorem c_De_isToldInSize {l : Launch} {D : va_G} {ad : Nat → Nat} {ca : Nat → ClassId} (x1 : Int32) (q : z_Sg) (o : Int32) (h : f_De_isToldInSize x1 q = some o) : z_ci l y_De_isToldInSize b_De_isToldInSize 3 (some .boolean) 1 20 D (z_Kt ca) (z_K ad ca q) (z_K ad ca q) [.ref (ad 5), .int x1] o := by
  refine z_ci_of (own := z_RDe) (by decide) rfl ?_
  intro p e s m below meth c A C0 hw
  obtain ⟨hx, hb, hr, hlk, hml, hown, hts, hK, hA⟩ := id C0
  generalize hH : s.heap = H at hw ⊢
  generalize hlo : ([] : List Loc) = locs at hw ⊢
  refine z_entry (lv := [(0, .ref (ad 5)), (1, .int x1)]) (Nat.le_of_ble_eq_true rfl) rfl (fun ls hl => ?_)
  unfold f_De_isToldInSize at h
  refine lv_aload_n hx hb d_De_isToldInSize_0 rfl (lv_at hl 0 rfl) ?_
  refine gfK_5_shortened C0 hw fl_De_71 d_De_isToldInSize_1 ?_
  refine lv_if_eq (tgt := 15) hx hb d_De_isToldInSize_4 (by decide) (fun c1 => ?_) (fun c1 => ?_)
  · have h := ok_t h c1
    exact w_De_isToldInSize_15 o C0 q h H locs ls hw (lv_sub hl [0] rfl)
  · have h := ok_f h c1
    refine lv_iload_n hx hb d_De_isToldInSize_7 rfl (lv_at hl 1 rfl) ?_
    refine lv_iconst (v := (4 : Int32)) hx hb d_De_isToldInSize_8 (by decide) ?_
    refine lv_iand hx hb d_De_isToldInSize_9 ?_
    refine lv_if_eq (tgt := 15) hx hb d_De_isToldInSize_10 (by decide) (fun c7 => ?_) (fun c7 => ?_)
    · have h := ok_t h c7
      exact w_De_isToldInSize_15 o C0 q h H locs ls hw (lv_sub hl [0] rfl)
    · have h := ok_f h c7
      refine lv_iconst (v := (0 : Int32)) hx hb d_De_isToldInSize_13 (by decide) ?_
      have ho := Option.some.inj h
      subst ho
      exact z_rtz C0 hw (z_bo_n (Or.inl rfl)) d_De_isToldInSize_14
def k_Ma_min_10 (t0 : Int32) (q : z_Sg) : Option Int32 :=
  some t0
def f_Ma_min (x0 : Int32) (x1 : Int32) (q : z_Sg) : Option Int32 :=
  if x1 < x0 then (k_Ma_min_10 x1 q) else (k_Ma_min_10 x0 q)
set_option maxHeartbeats 4000000 in
set_option maxRecDepth 100000 in
theorem w_Ma_min_10 {p : Program} {l : Launch} {e : Env} {s : State} {m : MethodId} {args : Array Value} {below : List Frame} {meth : Method} {c : Code} {D : va_G} {A : Nat → Prop} {ad : Nat → Nat} {ca : Nat → ClassId} (o : Int32) (C0 : z_cx z_RMa b_Ma_min 2 (some .int) D (z_Kt ca) A p s m args meth c) (q : z_Sg) (t0 : Int32) (h : k_Ma_min_10 t0 q = some o) : ∀ (H : Heap) (locs : List Loc) (ls : Array Slot), z_wd D (z_K ad ca q) A s H locs → lv_has ls 2 [] → W p l e (z_rm 0 0) s m args below meth c H locs 0 0 (z_qi below D (z_Kt ca) (z_K ad ca q) A s args o) (F0 m 10 ls [.int t0]) := by
  obtain ⟨hx, hb, hr, hlk, hml, hown, hts, hK, hA⟩ := id C0
  intro H locs ls hw hl
  have ho := Option.some.inj h
  subst ho
  exact z_rti C0 hw d_Ma_min_10
set_option maxHeartbeats 4000000 in
set_option maxRecDepth 100000 in
theorem c_Ma_min {l : Launch} {D : va_G} {ad : Nat → Nat} {ca : Nat → ClassId} (x0 : Int32) (x1 : Int32) (q : z_Sg) (o : Int32) (h : f_Ma_min x0 x1 q = some o) : z_ci l y_Ma_min b_Ma_min 2 (some .int) 0 0 D (z_Kt ca) (z_K ad ca q) (z_K ad ca q) [.int x0, .int x1] o := by
  refine z_ciJ_of (own := z_RMa) (by decide +kernel) rfl ?_
  intro p e s m below meth c A C0 hw
  obtain ⟨hx, hb, hr, hlk, hml, hown, hts, hK, hA⟩ := id C0
  generalize hH : s.heap = H at hw ⊢
  generalize hlo : ([] : List Loc) = locs at hw ⊢
  refine z_entry (lv := [(0, .int x0), (1, .int x1)]) (Nat.le_of_ble_eq_true rfl) rfl (fun ls hl => ?_)
  unfold f_Ma_min at h
  refine lv_iload_n hx hb d_Ma_min_0 rfl (lv_at hl 0 rfl) ?_
  refine lv_iload_n hx hb d_Ma_min_1 rfl (lv_at hl 1 rfl) ?_
  refine lv_icmp_gt (tgt := 9) hx hb d_Ma_min_2 (by decide) (fun c1 => ?_) (fun c1 => ?_)
  · have h := ok_t h c1
    refine lv_iload_n hx hb d_Ma_min_9 rfl (lv_at hl 1 rfl) ?_
    exact w_Ma_min_10 o C0 q x1 h H locs ls hw (lv_sub hl [] rfl)
  · have h := ok_f h c1
    refine lv_iload_n hx hb d_Ma_min_5 rfl (lv_at hl 0 rfl) ?_
    refine lv_goto (tgt := 10) hx hb d_Ma_min_6 (by decide) ?_
    exact w_Ma_min_10 o C0 q x0 h H locs ls hw (lv_sub hl [] rfl)
