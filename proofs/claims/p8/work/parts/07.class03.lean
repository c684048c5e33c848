def kb_Sp_value_12_4 (ih4 : Int64 × Int32 → Option Int64) (x1 : Int64) (x3 : Int32) (q : z_Sg) : Option Int64 :=
  if (z_gI q 17) ≤ x3 then (some x1) else (if z_bad x3 8 then none else ((f_Pa_byteAt (z_gM q 3 x3.toNatClampNeg) q).bind (fun r3 => z_nm ((x1 ||| (z_lshl (r3.toInt64) ((8 : Int32) * x3)))) (fun n4 => z_nm (x3 + (1 : Int32)) (fun n5 => ih4 (n4, n5))))))
def k_Sp_value_12_4 (x1 : Int64) (x3 : Int32) (q : z_Sg) : Option Int64 := z_lo (fun ih4 a => kb_Sp_value_12_4 ih4 a.1 a.2 q) 2000 (x1, x3)
def f_Sp_value_12 (q : z_Sg) : Option Int64 :=
  k_Sp_value_12_4 (0 : Int64) (0 : Int32) q
set_option maxHeartbeats 4000000 in
set_option maxRecDepth 100000 in
theorem wb_Sp_value_12_4 {p : Program} {l : Launch} {e : Env} {s : State} {m : MethodId} {args : Array Value} {below : List Frame} {meth : Method} {c : Code} {D : va_G} {A : Nat → Prop} {ad : Nat → Nat} {ca : Nat → ClassId} (o : Int64) (C0 : z_cx z_RSp b_Sp_value 4 (some .long) D (z_Kt ca) A p s m args meth c) (q : z_Sg) (ih4 : Int64 × Int32 → Option Int64) (hi4 : ∀ a : Int64 × Int32, ih4 a = some o → ∀ (H : Heap) (locs : List Loc) (ls : Array Slot), z_wd D (z_K ad ca q) A s H locs → lv_has ls 4 [(0, .ref (ad 12)), (1, .long a.1), (3, .int a.2)] → W p l e (z_rm 1 23) s m args below meth c H locs 0 0 (z_ql below D (z_Kt ca) (z_K ad ca q) A s args o) (F0 m 4 ls [])) (x1 : Int64) (x3 : Int32) (h : kb_Sp_value_12_4 ih4 x1 x3 q = some o) : ∀ (H : Heap) (locs : List Loc) (ls : Array Slot), z_wd D (z_K ad ca q) A s H locs → lv_has ls 4 [(0, .ref (ad 12)), (1, .long x1), (3, .int x3)] → W p l e (z_rm 1 23) s m args below meth c H locs 0 0 (z_ql below D (z_Kt ca) (z_K ad ca q) A s args o) (F0 m 4 ls []) := by
  obtain ⟨hx, hb, hr, hlk, hml, hown, hts, hK, hA⟩ := id C0
  intro H locs ls hw hl
  refine lv_iload_n hx hb d_Sp_value_4 rfl (lv_at hl 2 rfl) ?_
  refine lv_aload_n hx hb d_Sp_value_5 rfl (lv_at hl 0 rfl) ?_
  refine gfK_12_length C0 hw fl_Sp_25 d_Sp_value_6 ?_
  refine lv_icmp_ge (tgt := 40) hx hb d_Sp_value_9 (by decide) (fun c1 => ?_) (fun c1 => ?_)
  · have h := ok_t h c1
    refine lv_lload_n hx hb d_Sp_value_40 rfl (lv_at hl 1 rfl) ?_
    have ho := Option.some.inj h
    subst ho
    exact z_rtl C0 hw d_Sp_value_41
  · have h := ok_f h c1
    refine lv_lload_n hx hb d_Sp_value_12 rfl (lv_at hl 1 rfl) ?_
    refine lv_aload_n hx hb d_Sp_value_13 rfl (lv_at hl 0 rfl) ?_
    refine gfK_12_pages C0 hw fl_Sp_15 d_Sp_value_14 ?_
    refine lv_aload_n hx hb d_Sp_value_17 rfl (lv_at hl 0 rfl) ?_
    refine gfK_12_at C0 hw fl_Sp_9 d_Sp_value_18 ?_
    refine lv_iload_n hx hb d_Sp_value_21 rfl (lv_at hl 2 rfl) ?_
    obtain ⟨b2, h⟩ := ok_g h
    refine alK_13 C0 hw b2 d_Sp_value_22 ?_
    obtain ⟨r3, er3, h⟩ := ok_b h
    refine z_vi (rest := [.long x1]) C0 hw (c_Pa_byteAt (z_gM q 3 x3.toNatClampNeg) q r3 er3) mw_Pa_byteAt ml_Sp_41 3 rfl ⟨Nat.le_of_ble_eq_true rfl, Nat.le_of_ble_eq_true rfl⟩ ⟨Nat.le_refl 0, Nat.le_refl 0⟩ rfl hl.1 rfl (Nat.le_of_ble_eq_true rfl) d_Sp_value_23 (fun H locs hw => ?_)
    refine lv_i2l hx hb d_Sp_value_26 rfl ?_
    refine lv_bipush (v := (8 : Int32)) hx hb d_Sp_value_27 (by decide) ?_
    refine lv_iload_n hx hb d_Sp_value_29 rfl (lv_at hl 2 rfl) ?_
    refine lv_imul hx hb d_Sp_value_30 ?_
    refine lv_lshl (v := (z_lshl (r3.toInt64) ((8 : Int32) * x3))) hx hb d_Sp_value_31 rfl ?_
    refine lv_lor hx hb d_Sp_value_32 ?_
    obtain ⟨n4, en4, h⟩ := ok_n h
    refine z_tl en4 ?_
    refine lv_lstore_n (lv' := [(1, .long n4), (0, .ref (ad 12)), (3, .int x3)]) hx hb d_Sp_value_33 rfl hl (by decide) rfl (fun ls hl => ?_)
    obtain ⟨n5, en5, h⟩ := ok_n h
    refine lv_iinc (v := n5) (lv' := [(3, .int n5), (1, .long n4), (0, .ref (ad 12))]) hx hb d_Sp_value_34 hl (k := 2) rfl (by rw [en5]; rfl) (by decide) rfl (fun ls hl => ?_)
    refine lv_goto (tgt := 4) hx hb d_Sp_value_37 (by decide) ?_
    exact hi4 (n4, n5) h H locs ls hw (lv_sub hl [2, 1, 0] rfl)
theorem w_Sp_value_12_4 {p : Program} {l : Launch} {e : Env} {s : State} {m : MethodId} {args : Array Value} {below : List Frame} {meth : Method} {c : Code} {D : va_G} {A : Nat → Prop} {ad : Nat → Nat} {ca : Nat → ClassId} (o : Int64) (C0 : z_cx z_RSp b_Sp_value 4 (some .long) D (z_Kt ca) A p s m args meth c) (q : z_Sg) (x1 : Int64) (x3 : Int32) (h : k_Sp_value_12_4 x1 x3 q = some o) : ∀ (H : Heap) (locs : List Loc) (ls : Array Slot), z_wd D (z_K ad ca q) A s H locs → lv_has ls 4 [(0, .ref (ad 12)), (1, .long x1), (3, .int x3)] → W p l e (z_rm 1 23) s m args below meth c H locs 0 0 (z_ql below D (z_Kt ca) (z_K ad ca q) A s args o) (F0 m 4 ls []) := by
  have key : ∀ (n : Nat) (a : Int64 × Int32), z_lo (fun ih4 a => kb_Sp_value_12_4 ih4 a.1 a.2 q) n a = some o → ∀ (H : Heap) (locs : List Loc) (ls : Array Slot), z_wd D (z_K ad ca q) A s H locs → lv_has ls 4 [(0, .ref (ad 12)), (1, .long a.1), (3, .int a.2)] → W p l e (z_rm 1 23) s m args below meth c H locs 0 0 (z_ql below D (z_Kt ca) (z_K ad ca q) A s args o) (F0 m 4 ls []) := by
    intro n
    induction n with
    | zero => intro a h; cases h
    | succ n ih => exact fun a h => wb_Sp_value_12_4 o C0 q (z_lo (fun ih4 a => kb_Sp_value_12_4 ih4 a.1 a.2 q) n) ih a.1 a.2 h
  exact key 2000 (x1, x3) h
set_option maxHeartbeats 4000000 in
set_option maxRecDepth 100000 in
theorem c_Sp_value_12 {l : Launch} {D : va_G} {ad : Nat → Nat} {ca : Nat → ClassId} (q : z_Sg) (o : Int64) (h : f_Sp_value_12 q = some o) : z_cl l y_Sp_value b_Sp_value 4 (some .long) 1 23 D (z_Kt ca) (z_K ad ca q) (z_K ad ca q) [.ref (ad 12)] o := by
  refine z_cl_of (own := z_RSp) (by decide) rfl ?_
  intro p e s m below meth c A C0 hw
  obtain ⟨hx, hb, hr, hlk, hml, hown, hts, hK, hA⟩ := id C0
  generalize hH : s.heap = H at hw ⊢
  generalize hlo : ([] : List Loc) = locs at hw ⊢
  refine z_entry (lv := [(0, .ref (ad 12))]) (Nat.le_of_ble_eq_true rfl) rfl (fun ls hl => ?_)
  unfold f_Sp_value_12 at h
  refine lv_lconst (v := (0 : Int64)) hx hb d_Sp_value_0 (by decide) ?_
  refine lv_lstore_n (lv' := [(1, .long (0 : Int64)), (0, .ref (ad 12))]) hx hb d_Sp_value_1 rfl hl (by decide) rfl (fun ls hl => ?_)
  refine lv_iconst (v := (0 : Int32)) hx hb d_Sp_value_2 (by decide) ?_
  refine lv_istore_n (lv' := [(3, .int (0 : Int32)), (1, .long (0 : Int64)), (0, .ref (ad 12))]) hx hb d_Sp_value_3 rfl hl (by decide) rfl (fun ls hl => ?_)
  exact w_Sp_value_12_4 o C0 q (0 : Int64) (0 : Int32) h H locs ls hw (lv_sub hl [2, 1, 0] rfl)
def k_Op_putPart_86 (x1 : Int32) (x2 : Int64) (x5 : Int64) (t0 : Int64) (q : z_Sg) : Option z_Sg :=
  if z_bad (x1 &&& (15 : Int32)) 16 then none else (z_nm (z_sM q 0 (x1 &&& (15 : Int32)).toNatClampNeg (t0 ||| (x2 &&& x5))) (fun q6 => some q6))
def f_Op_putPart (x1 : Int32) (x2 : Int64) (x4 : Int32) (q : z_Sg) : Option z_Sg :=
  (f_Op_isUpperByte x1 x4 q).bind (fun r1 => if r1 = 0 then ((f_Ar_maskOf x4 q).bind (fun r3 => if (4 : Int32) ≤ x4 then (k_Op_putPart_86 x1 x2 r3 (0 : Int64) q) else (if z_bad (x1 &&& (15 : Int32)) 16 then none else (k_Op_putPart_86 x1 x2 r3 ((z_gM q 0 (x1 &&& (15 : Int32)).toNatClampNeg) &&& (r3 ^^^ (-1 : Int64))) q)))) else (if z_bad (x1 &&& (3 : Int32)) 16 then none else (z_nm (((z_gM q 0 (x1 &&& (3 : Int32)).toNatClampNeg) &&& (-65281 : Int64))) (fun n9 => if z_bad (x1 &&& (3 : Int32)) 16 then none else (z_nm (z_sM q 0 (x1 &&& (3 : Int32)).toNatClampNeg (n9 ||| (z_lshl (x2 &&& (255 : Int64)) (8 : Int32)))) (fun q11 => some q11))))))
set_option maxHeartbeats 4000000 in
set_option maxRecDepth 100000 in
theorem w_Op_putPart_86 {p : Program} {l : Launch} {e : Env} {s : State} {m : MethodId} {args : Array Value} {below : List Frame} {meth : Method} {c : Code} {D : va_G} {A : Nat → Prop} {ad : Nat → Nat} {ca : Nat → ClassId} (o : z_Sg) (C0 : z_cx z_ROp b_Op_putPart 9 none D (z_Kt ca) A p s m args meth c) (q : z_Sg) (x1 : Int32) (x2 : Int64) (x5 : Int64) (t0 : Int64) (h : k_Op_putPart_86 x1 x2 x5 t0 q = some o) : ∀ (H : Heap) (locs : List Loc) (ls : Array Slot), z_wd D (z_K ad ca q) A s H locs → lv_has ls 9 [(0, .ref (ad 6)), (1, .int x1), (2, .long x2), (5, .long x5)] → W p l e (z_rm 1 22) s m args below meth c H locs 0 0 (z_qv below D (z_Kt ca) (z_K ad ca o) A s args) (F0 m 86 ls [.long t0]) := by
  obtain ⟨hx, hb, hr, hlk, hml, hown, hts, hK, hA⟩ := id C0
  intro H locs ls hw hl
  refine lv_lstore (lv' := [(7, .long t0), (0, .ref (ad 6)), (1, .int x1), (2, .long x2), (5, .long x5)]) hx hb d_Op_putPart_86 hl (by decide) rfl (fun ls hl => ?_)
  refine lv_aload_n hx hb d_Op_putPart_88 rfl (lv_at hl 1 rfl) ?_
  refine gfK_6_state C0 hw fl_Op_9 d_Op_putPart_89 ?_
  refine gfK_1_registers C0 hw fl_Op_123 d_Op_putPart_92 ?_
  refine lv_iload_n hx hb d_Op_putPart_95 rfl (lv_at hl 2 rfl) ?_
  refine lv_bipush (v := (15 : Int32)) hx hb d_Op_putPart_96 (by decide) ?_
  refine lv_iand hx hb d_Op_putPart_98 ?_
  refine lv_lload hx hb d_Op_putPart_99 (lv_at hl 0 rfl) ?_
  refine lv_lload_n hx hb d_Op_putPart_101 rfl (lv_at hl 3 rfl) ?_
  refine lv_lload hx hb d_Op_putPart_102 (lv_at hl 4 rfl) ?_
  refine lv_land hx hb d_Op_putPart_104 ?_
  refine lv_lor hx hb d_Op_putPart_105 ?_
  obtain ⟨b5, h⟩ := ok_g h
  refine asK_2 C0 hw b5 d_Op_putPart_106 (fun H locs hw => ?_)
  obtain ⟨q6, eq6, h⟩ := ok_n h
  rw [← eq6] at hw
  have ho := Option.some.inj h
  subst ho
  exact z_rtv C0 hw d_Op_putPart_107
set_option maxHeartbeats 4000000 in
set_option maxRecDepth 100000 in
theorem c_Op_putPart {l : Launch} {D : va_G} {ad : Nat → Nat} {ca : Nat → ClassId} (x1 : Int32) (x2 : Int64) (x4 : Int32) (q : z_Sg) (o : z_Sg) (h : f_Op_putPart x1 x2 x4 q = some o) : z_cv l y_Op_putPart b_Op_putPart 9 none 1 22 D (z_Kt ca) (z_K ad ca q) (z_K ad ca o) [.ref (ad 6), .int x1, .long x2, .int x4] := by
  refine z_cv_of (own := z_ROp) (by decide) rfl ?_
  intro p e s m below meth c A C0 hw
  obtain ⟨hx, hb, hr, hlk, hml, hown, hts, hK, hA⟩ := id C0
  generalize hH : s.heap = H at hw ⊢
  generalize hlo : ([] : List Loc) = locs at hw ⊢
  refine z_entry (lv := [(0, .ref (ad 6)), (1, .int x1), (2, .long x2), (4, .int x4)]) (Nat.le_of_ble_eq_true rfl) rfl (fun ls hl => ?_)
  unfold f_Op_putPart at h
  refine lv_aload_n hx hb d_Op_putPart_0 rfl (lv_at hl 0 rfl) ?_
  refine lv_iload_n hx hb d_Op_putPart_1 rfl (lv_at hl 1 rfl) ?_
  refine lv_iload hx hb d_Op_putPart_2 (lv_at hl 3 rfl) ?_
  obtain ⟨r1, er1, h⟩ := ok_b h
  refine z_vi (rest := []) C0 hw (c_Op_isUpperByte x1 x4 q r1 er1) mw_Op_isUpperByte ml_Op_119 6 rfl ⟨Nat.le_of_ble_eq_true rfl, Nat.le_of_ble_eq_true rfl⟩ ⟨Nat.le_refl 0, Nat.le_refl 0⟩ rfl hl.1 rfl (Nat.le_of_ble_eq_true rfl) d_Op_putPart_4 (fun H locs hw => ?_)
  refine lv_if_eq (tgt := 50) hx hb d_Op_putPart_7 (by decide) (fun c2 => ?_) (fun c2 => ?_)
  · have h := ok_t h c2
    refine lv_iload hx hb d_Op_putPart_50 (lv_at hl 3 rfl) ?_
    obtain ⟨r3, er3, h⟩ := ok_b h
    refine z_sl (rest := []) C0 hw (c_Ar_maskOf x4 q r3 er3) mw_Ar_maskOf ml_Op_131 ⟨Nat.le_of_ble_eq_true rfl, Nat.le_of_ble_eq_true rfl⟩ ⟨Nat.le_refl 0, Nat.le_refl 0⟩ rfl hl.1 rfl (Nat.le_of_ble_eq_true rfl) d_Op_putPart_52 (fun H locs hw => ?_)
    refine lv_lstore (lv' := [(5, .long r3), (0, .ref (ad 6)), (1, .int x1), (2, .long x2), (4, .int x4)]) hx hb d_Op_putPart_55 hl (by decide) rfl (fun ls hl => ?_)
    refine lv_iload hx hb d_Op_putPart_57 (lv_at hl 4 rfl) ?_
    refine lv_iconst (v := (4 : Int32)) hx hb d_Op_putPart_59 (by decide) ?_
    refine lv_icmp_ge (tgt := 85) hx hb d_Op_putPart_60 (by decide) (fun c4 => ?_) (fun c4 => ?_)
    · have h := ok_t h c4
      refine lv_lconst (v := (0 : Int64)) hx hb d_Op_putPart_85 (by decide) ?_
      exact w_Op_putPart_86 o C0 q x1 x2 r3 (0 : Int64) h H locs ls hw (lv_sub hl [1, 2, 3, 0] rfl)
    · have h := ok_f h c4
      refine lv_aload_n hx hb d_Op_putPart_63 rfl (lv_at hl 1 rfl) ?_
      refine gfK_6_state C0 hw fl_Op_9 d_Op_putPart_64 ?_
      refine gfK_1_registers C0 hw fl_Op_123 d_Op_putPart_67 ?_
      refine lv_iload_n hx hb d_Op_putPart_70 rfl (lv_at hl 2 rfl) ?_
      refine lv_bipush (v := (15 : Int32)) hx hb d_Op_putPart_71 (by decide) ?_
      refine lv_iand hx hb d_Op_putPart_73 ?_
      obtain ⟨b7, h⟩ := ok_g h
      refine alK_2 C0 hw b7 d_Op_putPart_74 ?_
      refine lv_lload hx hb d_Op_putPart_75 (lv_at hl 0 rfl) ?_
      refine lv_ldc2 (own := z_ROp) hx hb hown (hts _ kl_Op_136) d_Op_putPart_77 ?_
      refine lv_lxor hx hb d_Op_putPart_80 ?_
      refine lv_land hx hb d_Op_putPart_81 ?_
      refine lv_goto (tgt := 86) hx hb d_Op_putPart_82 (by decide) ?_
      exact w_Op_putPart_86 o C0 q x1 x2 r3 ((z_gM q 0 (x1 &&& (15 : Int32)).toNatClampNeg) &&& (r3 ^^^ (-1 : Int64))) h H locs ls hw (lv_sub hl [1, 2, 3, 0] rfl)
  · have h := ok_f h c2
    refine lv_aload_n hx hb d_Op_putPart_10 rfl (lv_at hl 0 rfl) ?_
    refine gfK_6_state C0 hw fl_Op_9 d_Op_putPart_11 ?_
    refine gfK_1_registers C0 hw fl_Op_123 d_Op_putPart_14 ?_
    refine lv_iload_n hx hb d_Op_putPart_17 rfl (lv_at hl 1 rfl) ?_
    refine lv_iconst (v := (3 : Int32)) hx hb d_Op_putPart_18 (by decide) ?_
    refine lv_iand hx hb d_Op_putPart_19 ?_
    obtain ⟨b8, h⟩ := ok_g h
    refine alK_2 C0 hw b8 d_Op_putPart_20 ?_
    refine lv_ldc2 (own := z_ROp) hx hb hown (hts _ kl_Op_134) d_Op_putPart_21 ?_
    refine lv_land hx hb d_Op_putPart_24 ?_
    obtain ⟨n9, en9, h⟩ := ok_n h
    refine z_tl en9 ?_
    refine lv_lstore (lv' := [(5, .long n9), (0, .ref (ad 6)), (1, .int x1), (2, .long x2), (4, .int x4)]) hx hb d_Op_putPart_25 hl (by decide) rfl (fun ls hl => ?_)
    refine lv_aload_n hx hb d_Op_putPart_27 rfl (lv_at hl 1 rfl) ?_
    refine gfK_6_state C0 hw fl_Op_9 d_Op_putPart_28 ?_
    refine gfK_1_registers C0 hw fl_Op_123 d_Op_putPart_31 ?_
    refine lv_iload_n hx hb d_Op_putPart_34 rfl (lv_at hl 2 rfl) ?_
    refine lv_iconst (v := (3 : Int32)) hx hb d_Op_putPart_35 (by decide) ?_
    refine lv_iand hx hb d_Op_putPart_36 ?_
    refine lv_lload hx hb d_Op_putPart_37 (lv_at hl 0 rfl) ?_
    refine lv_lload_n hx hb d_Op_putPart_39 rfl (lv_at hl 3 rfl) ?_
    refine lv_ldc2 (own := z_ROp) hx hb hown (hts _ kl_Op_129) d_Op_putPart_40 ?_
    refine lv_land hx hb d_Op_putPart_43 ?_
    refine lv_bipush (v := (8 : Int32)) hx hb d_Op_putPart_44 (by decide) ?_
    refine lv_lshl (v := (z_lshl (x2 &&& (255 : Int64)) (8 : Int32))) hx hb d_Op_putPart_46 rfl ?_
    refine lv_lor hx hb d_Op_putPart_47 ?_
    obtain ⟨b10, h⟩ := ok_g h
    refine asK_2 C0 hw b10 d_Op_putPart_48 (fun H locs hw => ?_)
    obtain ⟨q11, eq11, h⟩ := ok_n h
    rw [← eq11] at hw
    have ho := Option.some.inj h
    subst ho
    exact z_rtv C0 hw d_Op_putPart_49
def k_Fl_popRegister_49 (x3 : Int32) (q : z_Sg) : Option (Int32 × z_Sg) :=
  some (x3, q)
def f_Fl_popRegister (x1 : Int32) (q : z_Sg) : Option (Int32 × z_Sg) :=
  (f_De_sizeOnStack q).bind (fun r1 => (f_Fl_findTop r1 q).bind (fun r2 => if r2.1 = (-1 : Int32) then (if z_bad (4 : Int32) 16 then none else (if z_bad (4 : Int32) 16 then none else (z_nm (z_sM r2.2 0 (4 : Int32).toNatClampNeg ((z_gM r2.2 0 (4 : Int32).toNatClampNeg) + (r1.toInt64))) (fun q6 => (f_Sp_value_12 q6).bind (fun r7 => (f_Op_putPart x1 r7 r1 q6).bind (fun r8 => k_Fl_popRegister_49 r2.1 r8)))))) else (k_Fl_popRegister_49 r2.1 r2.2)))
set_option maxHeartbeats 4000000 in
set_option maxRecDepth 100000 in
theorem w_Fl_popRegister_49 {p : Program} {l : Launch} {e : Env} {s : State} {m : MethodId} {args : Array Value} {below : List Frame} {meth : Method} {c : Code} {D : va_G} {A : Nat → Prop} {ad : Nat → Nat} {ca : Nat → ClassId} (o : (Int32 × z_Sg)) (C0 : z_cx z_RFl b_Fl_popRegister 4 (some .int) D (z_Kt ca) A p s m args meth c) (q : z_Sg) (x3 : Int32) (h : k_Fl_popRegister_49 x3 q = some o) : ∀ (H : Heap) (locs : List Loc) (ls : Array Slot), z_wd D (z_K ad ca q) A s H locs → lv_has ls 4 [(3, .int x3)] → W p l e (z_rm 4 110) s m args below meth c H locs 0 0 (z_qi below D (z_Kt ca) (z_K ad ca o.2) A s args o.1) (F0 m 49 ls []) := by
  obtain ⟨hx, hb, hr, hlk, hml, hown, hts, hK, hA⟩ := id C0
  intro H locs ls hw hl
  refine lv_iload_n hx hb d_Fl_popRegister_49 rfl (lv_at hl 0 rfl) ?_
  have ho := Option.some.inj h
  subst ho
  exact z_rti C0 hw d_Fl_popRegister_50
set_option maxHeartbeats 4000000 in
set_option maxRecDepth 100000 in
theorem c_Fl_popRegister {l : Launch} {D : va_G} {ad : Nat → Nat} {ca : Nat → ClassId} (x1 : Int32) (q : z_Sg) (o : (Int32 × z_Sg)) (h : f_Fl_popRegister x1 q = some o) : z_ci l y_Fl_popRegister b_Fl_popRegister 4 (some .int) 4 110 D (z_Kt ca) (z_K ad ca q) (z_K ad ca o.2) [.ref (ad 11), .int x1] o.1 := by
  refine z_ci_of (own := z_RFl) (by decide) rfl ?_
  intro p e s m below meth c A C0 hw
  obtain ⟨hx, hb, hr, hlk, hml, hown, hts, hK, hA⟩ := id C0
  generalize hH : s.heap = H at hw ⊢
  generalize hlo : ([] : List Loc) = locs at hw ⊢
  refine z_entry (lv := [(0, .ref (ad 11)), (1, .int x1)]) (Nat.le_of_ble_eq_true rfl) rfl (fun ls hl => ?_)
  unfold f_Fl_popRegister at h
  refine lv_aload_n hx hb d_Fl_popRegister_0 rfl (lv_at hl 0 rfl) ?_
  refine gfK_11_code C0 hw fl_Fl_15 d_Fl_popRegister_1 ?_
  obtain ⟨r1, er1, h⟩ := ok_b h
  refine z_vi (rest := []) C0 hw (c_De_sizeOnStack q r1 er1) mw_De_sizeOnStack ml_Fl_47 5 rfl ⟨Nat.le_of_ble_eq_true rfl, Nat.le_of_ble_eq_true rfl⟩ ⟨Nat.le_refl 0, Nat.le_refl 0⟩ rfl hl.1 rfl (Nat.le_of_ble_eq_true rfl) d_Fl_popRegister_4 (fun H locs hw => ?_)
  refine lv_istore_n (lv' := [(2, .int r1), (0, .ref (ad 11)), (1, .int x1)]) hx hb d_Fl_popRegister_7 rfl hl (by decide) rfl (fun ls hl => ?_)
  refine lv_aload_n hx hb d_Fl_popRegister_8 rfl (lv_at hl 1 rfl) ?_
  refine lv_iload_n hx hb d_Fl_popRegister_9 rfl (lv_at hl 0 rfl) ?_
  obtain ⟨r2, er2, h⟩ := ok_b h
  refine z_vi (rest := []) C0 hw (c_Fl_findTop r1 q r2 er2) mw_Fl_findTop ml_Fl_137 11 rfl ⟨Nat.le_of_ble_eq_true rfl, Nat.le_of_ble_eq_true rfl⟩ ⟨Nat.le_refl 0, Nat.le_refl 0⟩ rfl hl.1 rfl (Nat.le_of_ble_eq_true rfl) d_Fl_popRegister_10 (fun H locs hw => ?_)
  refine lv_istore_n (lv' := [(3, .int r2.1), (2, .int r1), (0, .ref (ad 11)), (1, .int x1)]) hx hb d_Fl_popRegister_13 rfl hl (by decide) rfl (fun ls hl => ?_)
  refine lv_iload_n hx hb d_Fl_popRegister_14 rfl (lv_at hl 0 rfl) ?_
  refine lv_iconst (v := (-1 : Int32)) hx hb d_Fl_popRegister_15 (by decide) ?_
  refine lv_icmp_ne (tgt := 49) hx hb d_Fl_popRegister_16 (by decide) (fun c3 => ?_) (fun c3 => ?_)
  · have h := ok_f h c3
    exact w_Fl_popRegister_49 o C0 r2.2 r2.1 h H locs ls hw (lv_sub hl [0] rfl)
  · have h := ok_t h c3
    refine lv_aload_n hx hb d_Fl_popRegister_19 rfl (lv_at hl 2 rfl) ?_
    refine gfK_11_state C0 hw fl_Fl_9 d_Fl_popRegister_20 ?_
    refine gfK_1_registers C0 hw fl_Fl_101 d_Fl_popRegister_23 ?_
    refine lv_iconst (v := (4 : Int32)) hx hb d_Fl_popRegister_26 (by decide) ?_
    refine lv_dup2_11 hx hb d_Fl_popRegister_27 rfl rfl ?_
    obtain ⟨b4, h⟩ := ok_g h
    refine alK_2 C0 hw b4 d_Fl_popRegister_28 ?_
    refine lv_iload_n hx hb d_Fl_popRegister_29 rfl (lv_at hl 1 rfl) ?_
    refine lv_i2l hx hb d_Fl_popRegister_30 rfl ?_
    refine lv_ladd hx hb d_Fl_popRegister_31 ?_
    obtain ⟨b5, h⟩ := ok_g h
    refine asK_2 C0 hw b5 d_Fl_popRegister_32 (fun H locs hw => ?_)
    obtain ⟨q6, eq6, h⟩ := ok_n h
    rw [← eq6] at hw
    refine lv_aload_n hx hb d_Fl_popRegister_33 rfl (lv_at hl 2 rfl) ?_
    refine gfK_11_operands C0 hw fl_Fl_19 d_Fl_popRegister_34 ?_
    refine lv_iload_n hx hb d_Fl_popRegister_37 rfl (lv_at hl 3 rfl) ?_
    refine lv_aload_n hx hb d_Fl_popRegister_38 rfl (lv_at hl 2 rfl) ?_
    refine gfK_11_top C0 hw fl_Fl_27 d_Fl_popRegister_39 ?_
    obtain ⟨r7, er7, h⟩ := ok_b h
    refine z_vl (rest := [.int x1, .ref (ad 6)]) C0 hw (c_Sp_value_12 q6 r7 er7) mw_Sp_value ml_Fl_140 12 rfl ⟨Nat.le_of_ble_eq_true rfl, Nat.le_of_ble_eq_true rfl⟩ ⟨Nat.le_refl 0, Nat.le_refl 0⟩ rfl hl.1 rfl (Nat.le_of_ble_eq_true rfl) d_Fl_popRegister_42 (fun H locs hw => ?_)
    refine lv_iload_n hx hb d_Fl_popRegister_45 rfl (lv_at hl 1 rfl) ?_
    obtain ⟨r8, er8, h⟩ := ok_b h
    refine z_vv (rest := []) C0 hw (c_Op_putPart x1 r7 r1 q6 r8 er8) mw_Op_putPart ml_Fl_141 6 rfl ⟨Nat.le_of_ble_eq_true rfl, Nat.le_of_ble_eq_true rfl⟩ ⟨Nat.le_refl 0, Nat.le_refl 0⟩ rfl hl.1 rfl (Nat.le_of_ble_eq_true rfl) d_Fl_popRegister_46 (fun H locs hw => ?_)
    exact w_Fl_popRegister_49 o C0 r8 r2.1 h H locs ls hw (lv_sub hl [0] rfl)
def k_Ar_holds_239 (t0 : Int32) (q : z_Sg) : Option Int32 :=
  z_gd (z_bo t0) (some t0)
def k_Ar_holds_231 (t0 : Int32) (t1 : Int32) (q : z_Sg) : Option Int32 :=
  if t0 = t1 then (k_Ar_holds_239 (0 : Int32) q) else (k_Ar_holds_239 (1 : Int32) q)
def k_Ar_holds_218 (x1 : Int32) (x4 : Int32) (q : z_Sg) : Option Int32 :=
  if (x1 &&& (1 : Int32)) = 0 then (k_Ar_holds_231 x4 (0 : Int32) q) else (k_Ar_holds_231 x4 (1 : Int32) q)
def k_Ar_holds_105 (x1 : Int32) (t0 : Int32) (q : z_Sg) : Option Int32 :=
  k_Ar_holds_218 x1 t0 q
def k_Ar_holds_121 (x1 : Int32) (t0 : Int32) (q : z_Sg) : Option Int32 :=
  k_Ar_holds_218 x1 t0 q
def k_Ar_holds_138 (x1 : Int32) (t0 : Int32) (q : z_Sg) : Option Int32 :=
  k_Ar_holds_218 x1 t0 q
def k_Ar_holds_155 (x1 : Int32) (t0 : Int32) (q : z_Sg) : Option Int32 :=
  k_Ar_holds_218 x1 t0 q
def k_Ar_holds_173 (x1 : Int32) (t0 : Int32) (q : z_Sg) : Option Int32 :=
  k_Ar_holds_218 x1 t0 q
def k_Ar_holds_189 (x1 : Int32) (t0 : Int32) (q : z_Sg) : Option Int32 :=
  k_Ar_holds_218 x1 t0 q
def k_Ar_holds_216 (x1 : Int32) (t0 : Int32) (q : z_Sg) : Option Int32 :=
  k_Ar_holds_218 x1 t0 q
def k_Ar_holds_211 (x1 : Int32) (q : z_Sg) : Option Int32 :=
  k_Ar_holds_216 x1 (1 : Int32) q
def k_Ar_holds_42 (x1 : Int32) (x2 : Int32) (t0 : Int32) (q : z_Sg) : Option Int32 :=
  if ((x1 >>> ((1 : Int32) &&& 31)) &&& (7 : Int32)) = (0 : Int32) then (if (x2 &&& (2048 : Int32)) = 0 then (k_Ar_holds_105 x1 (0 : Int32) q) else (k_Ar_holds_105 x1 (1 : Int32) q)) else (if ((x1 >>> ((1 : Int32) &&& 31)) &&& (7 : Int32)) = (1 : Int32) then (if (x2 &&& (1 : Int32)) = 0 then (k_Ar_holds_121 x1 (0 : Int32) q) else (k_Ar_holds_121 x1 (1 : Int32) q)) else (if ((x1 >>> ((1 : Int32) &&& 31)) &&& (7 : Int32)) = (2 : Int32) then (if (x2 &&& (64 : Int32)) = 0 then (k_Ar_holds_138 x1 (0 : Int32) q) else (k_Ar_holds_138 x1 (1 : Int32) q)) else (if ((x1 >>> ((1 : Int32) &&& 31)) &&& (7 : Int32)) = (3 : Int32) then (if (x2 &&& (65 : Int32)) = 0 then (k_Ar_holds_155 x1 (0 : Int32) q) else (k_Ar_holds_155 x1 (1 : Int32) q)) else (if ((x1 >>> ((1 : Int32) &&& 31)) &&& (7 : Int32)) = (4 : Int32) then (if (x2 &&& (128 : Int32)) = 0 then (k_Ar_holds_173 x1 (0 : Int32) q) else (k_Ar_holds_173 x1 (1 : Int32) q)) else (if ((x1 >>> ((1 : Int32) &&& 31)) &&& (7 : Int32)) = (5 : Int32) then (if (x2 &&& (4 : Int32)) = 0 then (k_Ar_holds_189 x1 (0 : Int32) q) else (k_Ar_holds_189 x1 (1 : Int32) q)) else (if ((x1 >>> ((1 : Int32) &&& 31)) &&& (7 : Int32)) = (6 : Int32) then (k_Ar_holds_218 x1 t0 q) else (if t0 = 0 then (if (x2 &&& (64 : Int32)) = 0 then (k_Ar_holds_216 x1 (0 : Int32) q) else (k_Ar_holds_211 x1 q)) else (k_Ar_holds_211 x1 q))))))))
def k_Ar_holds_34 (x1 : Int32) (x2 : Int32) (t0 : Int32) (t1 : Int32) (q : z_Sg) : Option Int32 :=
  if t0 = t1 then (k_Ar_holds_42 x1 x2 (0 : Int32) q) else (k_Ar_holds_42 x1 x2 (1 : Int32) q)
def k_Ar_holds_21 (x1 : Int32) (x2 : Int32) (t0 : Int32) (q : z_Sg) : Option Int32 :=
  if (x2 &&& (2048 : Int32)) = 0 then (k_Ar_holds_34 x1 x2 t0 (0 : Int32) q) else (k_Ar_holds_34 x1 x2 t0 (1 : Int32) q)
def f_Ar_holds (x1 : Int32) (q : z_Sg) : Option Int32 :=
  z_nm ((z_gI q 0)) (fun n1 => if (n1 &&& (128 : Int32)) = 0 then (k_Ar_holds_21 x1 n1 (0 : Int32) q) else (k_Ar_holds_21 x1 n1 (1 : Int32) q))
set_option maxHeartbeats 4000000 in
set_option maxRecDepth 100000 in
theorem w_Ar_holds_239 {p : Program} {l : Launch} {e : Env} {s : State} {m : MethodId} {args : Array Value} {below : List Frame} {meth : Method} {c : Code} {D : va_G} {A : Nat → Prop} {ad : Nat → Nat} {ca : Nat → ClassId} (o : Int32) (C0 : z_cx z_RAr b_Ar_holds 5 (some .boolean) D (z_Kt ca) A p s m args meth c) (q : z_Sg) (t0 : Int32) (h : k_Ar_holds_239 t0 q = some o) : ∀ (H : Heap) (locs : List Loc) (ls : Array Slot), z_wd D (z_K ad ca q) A s H locs → lv_has ls 5 [] → W p l e (z_rm 0 0) s m args below meth c H locs 0 0 (z_qi below D (z_Kt ca) (z_K ad ca q) A s args o) (F0 m 239 ls [.int t0]) := by
  obtain ⟨hx, hb, hr, hlk, hml, hown, hts, hK, hA⟩ := id C0
  intro H locs ls hw hl
  obtain ⟨b9, h⟩ := ok_G h
  have ho := Option.some.inj h
  subst ho
  exact z_rtz C0 hw (z_bo_n b9) d_Ar_holds_239
set_option maxHeartbeats 4000000 in
set_option maxRecDepth 100000 in
theorem w_Ar_holds_231 {p : Program} {l : Launch} {e : Env} {s : State} {m : MethodId} {args : Array Value} {below : List Frame} {meth : Method} {c : Code} {D : va_G} {A : Nat → Prop} {ad : Nat → Nat} {ca : Nat → ClassId} (o : Int32) (C0 : z_cx z_RAr b_Ar_holds 5 (some .boolean) D (z_Kt ca) A p s m args meth c) (q : z_Sg) (t0 : Int32) (t1 : Int32) (h : k_Ar_holds_231 t0 t1 q = some o) : ∀ (H : Heap) (locs : List Loc) (ls : Array Slot), z_wd D (z_K ad ca q) A s H locs → lv_has ls 5 [] → W p l e (z_rm 0 0) s m args below meth c H locs 0 0 (z_qi below D (z_Kt ca) (z_K ad ca q) A s args o) (F0 m 231 ls [.int t1, .int t0]) := by
  obtain ⟨hx, hb, hr, hlk, hml, hown, hts, hK, hA⟩ := id C0
  intro H locs ls hw hl
  refine lv_icmp_eq (tgt := 238) hx hb d_Ar_holds_231 (by decide) (fun c8 => ?_) (fun c8 => ?_)
  · have h := ok_t h c8
    refine lv_iconst (v := (0 : Int32)) hx hb d_Ar_holds_238 (by decide) ?_
    exact w_Ar_holds_239 o C0 q (0 : Int32) h H locs ls hw (lv_sub hl [] rfl)
  · have h := ok_f h c8
    refine lv_iconst (v := (1 : Int32)) hx hb d_Ar_holds_234 (by decide) ?_
    refine lv_goto (tgt := 239) hx hb d_Ar_holds_235 (by decide) ?_
    exact w_Ar_holds_239 o C0 q (1 : Int32) h H locs ls hw (lv_sub hl [] rfl)
set_option maxHeartbeats 4000000 in
set_option maxRecDepth 100000 in
theorem w_Ar_holds_218 {p : Program} {l : Launch} {e : Env} {s : State} {m : MethodId} {args : Array Value} {below : List Frame} {meth : Method} {c : Code} {D : va_G} {A : Nat → Prop} {ad : Nat → Nat} {ca : Nat → ClassId} (o : Int32) (C0 : z_cx z_RAr b_Ar_holds 5 (some .boolean) D (z_Kt ca) A p s m args meth c) (q : z_Sg) (x1 : Int32) (x4 : Int32) (h : k_Ar_holds_218 x1 x4 q = some o) : ∀ (H : Heap) (locs : List Loc) (ls : Array Slot), z_wd D (z_K ad ca q) A s H locs → lv_has ls 5 [(1, .int x1), (4, .int x4)] → W p l e (z_rm 0 0) s m args below meth c H locs 0 0 (z_qi below D (z_Kt ca) (z_K ad ca q) A s args o) (F0 m 218 ls []) := by
  obtain ⟨hx, hb, hr, hlk, hml, hown, hts, hK, hA⟩ := id C0
  intro H locs ls hw hl
  refine lv_iload hx hb d_Ar_holds_218 (lv_at hl 1 rfl) ?_
  refine lv_iload_n hx hb d_Ar_holds_220 rfl (lv_at hl 0 rfl) ?_
  refine lv_iconst (v := (1 : Int32)) hx hb d_Ar_holds_221 (by decide) ?_
  refine lv_iand hx hb d_Ar_holds_222 ?_
  refine lv_if_eq (tgt := 230) hx hb d_Ar_holds_223 (by decide) (fun c7 => ?_) (fun c7 => ?_)
  · have h := ok_t h c7
    refine lv_iconst (v := (0 : Int32)) hx hb d_Ar_holds_230 (by decide) ?_
    exact w_Ar_holds_231 o C0 q x4 (0 : Int32) h H locs ls hw (lv_sub hl [] rfl)
  · have h := ok_f h c7
    refine lv_iconst (v := (1 : Int32)) hx hb d_Ar_holds_226 (by decide) ?_
    refine lv_goto (tgt := 231) hx hb d_Ar_holds_227 (by decide) ?_
    exact w_Ar_holds_231 o C0 q x4 (1 : Int32) h H locs ls hw (lv_sub hl [] rfl)
set_option maxHeartbeats 4000000 in
set_option maxRecDepth 100000 in
theorem w_Ar_holds_105 {p : Program} {l : Launch} {e : Env} {s : State} {m : MethodId} {args : Array Value} {below : List Frame} {meth : Method} {c : Code} {D : va_G} {A : Nat → Prop} {ad : Nat → Nat} {ca : Nat → ClassId} (o : Int32) (C0 : z_cx z_RAr b_Ar_holds 5 (some .boolean) D (z_Kt ca) A p s m args meth c) (q : z_Sg) (x1 : Int32) (t0 : Int32) (h : k_Ar_holds_105 x1 t0 q = some o) : ∀ (H : Heap) (locs : List Loc) (ls : Array Slot), z_wd D (z_K ad ca q) A s H locs → lv_has ls 5 [(1, .int x1)] → W p l e (z_rm 0 0) s m args below meth c H locs 0 0 (z_qi below D (z_Kt ca) (z_K ad ca q) A s args o) (F0 m 105 ls [.int t0]) := by
  obtain ⟨hx, hb, hr, hlk, hml, hown, hts, hK, hA⟩ := id C0
  intro H locs ls hw hl
  refine lv_istore (lv' := [(4, .int t0), (1, .int x1)]) hx hb d_Ar_holds_105 hl (by decide) rfl (fun ls hl => ?_)
  refine lv_goto (tgt := 218) hx hb d_Ar_holds_107 (by decide) ?_
  exact w_Ar_holds_218 o C0 q x1 t0 h H locs ls hw (lv_sub hl [1, 0] rfl)
set_option maxHeartbeats 4000000 in
set_option maxRecDepth 100000 in
theorem w_Ar_holds_121 {p : Program} {l : Launch} {e : Env} {s : State} {m : MethodId} {args : Array Value} {below : List Frame} {meth : Method} {c : Code} {D : va_G} {A : Nat → Prop} {ad : Nat → Nat} {ca : Nat → ClassId} (o : Int32) (C0 : z_cx z_RAr b_Ar_holds 5 (some .boolean) D (z_Kt ca) A p s m args meth c) (q : z_Sg) (x1 : Int32) (t0 : Int32) (h : k_Ar_holds_121 x1 t0 q = some o) : ∀ (H : Heap) (locs : List Loc) (ls : Array Slot), z_wd D (z_K ad ca q) A s H locs → lv_has ls 5 [(1, .int x1)] → W p l e (z_rm 0 0) s m args below meth c H locs 0 0 (z_qi below D (z_Kt ca) (z_K ad ca q) A s args o) (F0 m 121 ls [.int t0]) := by
  obtain ⟨hx, hb, hr, hlk, hml, hown, hts, hK, hA⟩ := id C0
  intro H locs ls hw hl
  refine lv_istore (lv' := [(4, .int t0), (1, .int x1)]) hx hb d_Ar_holds_121 hl (by decide) rfl (fun ls hl => ?_)
  refine lv_goto (tgt := 218) hx hb d_Ar_holds_123 (by decide) ?_
  exact w_Ar_holds_218 o C0 q x1 t0 h H locs ls hw (lv_sub hl [1, 0] rfl)
set_option maxHeartbeats 4000000 in
set_option maxRecDepth 100000 in
theorem w_Ar_holds_138 {p : Program} {l : Launch} {e : Env} {s : State} {m : MethodId} {args : Array Value} {below : List Frame} {meth : Method} {c : Code} {D : va_G} {A : Nat → Prop} {ad : Nat → Nat} {ca : Nat → ClassId} (o : Int32) (C0 : z_cx z_RAr b_Ar_holds 5 (some .boolean) D (z_Kt ca) A p s m args meth c) (q : z_Sg) (x1 : Int32) (t0 : Int32) (h : k_Ar_holds_138 x1 t0 q = some o) : ∀ (H : Heap) (locs : List Loc) (ls : Array Slot), z_wd D (z_K ad ca q) A s H locs → lv_has ls 5 [(1, .int x1)] → W p l e (z_rm 0 0) s m args below meth c H locs 0 0 (z_qi below D (z_Kt ca) (z_K ad ca q) A s args o) (F0 m 138 ls [.int t0]) := by
  obtain ⟨hx, hb, hr, hlk, hml, hown, hts, hK, hA⟩ := id C0
  intro H locs ls hw hl
  refine lv_istore (lv' := [(4, .int t0), (1, .int x1)]) hx hb d_Ar_holds_138 hl (by decide) rfl (fun ls hl => ?_)
  refine lv_goto (tgt := 218) hx hb d_Ar_holds_140 (by decide) ?_
  exact w_Ar_holds_218 o C0 q x1 t0 h H locs ls hw (lv_sub hl [1, 0] rfl)
set_option maxHeartbeats 4000000 in
set_option maxRecDepth 100000 in
theorem w_Ar_holds_155 {p : Program} {l : Launch} {e : Env} {s : State} {m : MethodId} {args : Array Value} {below : List Frame} {meth : Method} {c : Code} {D : va_G} {A : Nat → Prop} {ad : Nat → Nat} {ca : Nat → ClassId} (o : Int32) (C0 : z_cx z_RAr b_Ar_holds 5 (some .boolean) D (z_Kt ca) A p s m args meth c) (q : z_Sg) (x1 : Int32) (t0 : Int32) (h : k_Ar_holds_155 x1 t0 q = some o) : ∀ (H : Heap) (locs : List Loc) (ls : Array Slot), z_wd D (z_K ad ca q) A s H locs → lv_has ls 5 [(1, .int x1)] → W p l e (z_rm 0 0) s m args below meth c H locs 0 0 (z_qi below D (z_Kt ca) (z_K ad ca q) A s args o) (F0 m 155 ls [.int t0]) := by
  obtain ⟨hx, hb, hr, hlk, hml, hown, hts, hK, hA⟩ := id C0
  intro H locs ls hw hl
  refine lv_istore (lv' := [(4, .int t0), (1, .int x1)]) hx hb d_Ar_holds_155 hl (by decide) rfl (fun ls hl => ?_)
  refine lv_goto (tgt := 218) hx hb d_Ar_holds_157 (by decide) ?_
  exact w_Ar_holds_218 o C0 q x1 t0 h H locs ls hw (lv_sub hl [1, 0] rfl)
set_option maxHeartbeats 4000000 in
set_option maxRecDepth 100000 in
theorem w_Ar_holds_173 {p : Program} {l : Launch} {e : Env} {s : State} {m : MethodId} {args : Array Value} {below : List Frame} {meth : Method} {c : Code} {D : va_G} {A : Nat → Prop} {ad : Nat → Nat} {ca : Nat → ClassId} (o : Int32) (C0 : z_cx z_RAr b_Ar_holds 5 (some .boolean) D (z_Kt ca) A p s m args meth c) (q : z_Sg) (x1 : Int32) (t0 : Int32) (h : k_Ar_holds_173 x1 t0 q = some o) : ∀ (H : Heap) (locs : List Loc) (ls : Array Slot), z_wd D (z_K ad ca q) A s H locs → lv_has ls 5 [(1, .int x1)] → W p l e (z_rm 0 0) s m args below meth c H locs 0 0 (z_qi below D (z_Kt ca) (z_K ad ca q) A s args o) (F0 m 173 ls [.int t0]) := by
  obtain ⟨hx, hb, hr, hlk, hml, hown, hts, hK, hA⟩ := id C0
  intro H locs ls hw hl
  refine lv_istore (lv' := [(4, .int t0), (1, .int x1)]) hx hb d_Ar_holds_173 hl (by decide) rfl (fun ls hl => ?_)
  refine lv_goto (tgt := 218) hx hb d_Ar_holds_175 (by decide) ?_
  exact w_Ar_holds_218 o C0 q x1 t0 h H locs ls hw (lv_sub hl [1, 0] rfl)
set_option maxHeartbeats 4000000 in
set_option maxRecDepth 100000 in
theorem w_Ar_holds_189 {p : Program} {l : Launch} {e : Env} {s : State} {m : MethodId} {args : Array Value} {below : List Frame} {meth : Method} {c : Code} {D : va_G} {A : Nat → Prop} {ad : Nat → Nat} {ca : Nat → ClassId} (o : Int32) (C0 : z_cx z_RAr b_Ar_holds 5 (some .boolean) D (z_Kt ca) A p s m args meth c) (q : z_Sg) (x1 : Int32) (t0 : Int32) (h : k_Ar_holds_189 x1 t0 q = some o) : ∀ (H : Heap) (locs : List Loc) (ls : Array Slot), z_wd D (z_K ad ca q) A s H locs → lv_has ls 5 [(1, .int x1)] → W p l e (z_rm 0 0) s m args below meth c H locs 0 0 (z_qi below D (z_Kt ca) (z_K ad ca q) A s args o) (F0 m 189 ls [.int t0]) := by
  obtain ⟨hx, hb, hr, hlk, hml, hown, hts, hK, hA⟩ := id C0
  intro H locs ls hw hl
  refine lv_istore (lv' := [(4, .int t0), (1, .int x1)]) hx hb d_Ar_holds_189 hl (by decide) rfl (fun ls hl => ?_)
  refine lv_goto (tgt := 218) hx hb d_Ar_holds_191 (by decide) ?_
  exact w_Ar_holds_218 o C0 q x1 t0 h H locs ls hw (lv_sub hl [1, 0] rfl)
set_option maxHeartbeats 4000000 in
set_option maxRecDepth 100000 in
theorem w_Ar_holds_216 {p : Program} {l : Launch} {e : Env} {s : State} {m : MethodId} {args : Array Value} {below : List Frame} {meth : Method} {c : Code} {D : va_G} {A : Nat → Prop} {ad : Nat → Nat} {ca : Nat → ClassId} (o : Int32) (C0 : z_cx z_RAr b_Ar_holds 5 (some .boolean) D (z_Kt ca) A p s m args meth c) (q : z_Sg) (x1 : Int32) (t0 : Int32) (h : k_Ar_holds_216 x1 t0 q = some o) : ∀ (H : Heap) (locs : List Loc) (ls : Array Slot), z_wd D (z_K ad ca q) A s H locs → lv_has ls 5 [(1, .int x1)] → W p l e (z_rm 0 0) s m args below meth c H locs 0 0 (z_qi below D (z_Kt ca) (z_K ad ca q) A s args o) (F0 m 216 ls [.int t0]) := by
  obtain ⟨hx, hb, hr, hlk, hml, hown, hts, hK, hA⟩ := id C0
  intro H locs ls hw hl
  refine lv_istore (lv' := [(4, .int t0), (1, .int x1)]) hx hb d_Ar_holds_216 hl (by decide) rfl (fun ls hl => ?_)
  exact w_Ar_holds_218 o C0 q x1 t0 h H locs ls hw (lv_sub hl [1, 0] rfl)
set_option maxHeartbeats 4000000 in
set_option maxRecDepth 100000 in
theorem w_Ar_holds_211 {p : Program} {l : Launch} {e : Env} {s : State} {m : MethodId} {args : Array Value} {below : List Frame} {meth : Method} {c : Code} {D : va_G} {A : Nat → Prop} {ad : Nat → Nat} {ca : Nat → ClassId} (o : Int32) (C0 : z_cx z_RAr b_Ar_holds 5 (some .boolean) D (z_Kt ca) A p s m args meth c) (q : z_Sg) (x1 : Int32) (h : k_Ar_holds_211 x1 q = some o) : ∀ (H : Heap) (locs : List Loc) (ls : Array Slot), z_wd D (z_K ad ca q) A s H locs → lv_has ls 5 [(1, .int x1)] → W p l e (z_rm 0 0) s m args below meth c H locs 0 0 (z_qi below D (z_Kt ca) (z_K ad ca q) A s args o) (F0 m 211 ls []) := by
  obtain ⟨hx, hb, hr, hlk, hml, hown, hts, hK, hA⟩ := id C0
  intro H locs ls hw hl
  refine lv_iconst (v := (1 : Int32)) hx hb d_Ar_holds_211 (by decide) ?_
  refine lv_goto (tgt := 216) hx hb d_Ar_holds_212 (by decide) ?_
  exact w_Ar_holds_216 o C0 q x1 (1 : Int32) h H locs ls hw (lv_sub hl [0] rfl)
set_option maxHeartbeats 4000000 in
set_option maxRecDepth 100000 in
theorem w_Ar_holds_42 {p : Program} {l : Launch} {e : Env} {s : State} {m : MethodId} {args : Array Value} {below : List Frame} {meth : Method} {c : Code} {D : va_G} {A : Nat → Prop} {ad : Nat → Nat} {ca : Nat → ClassId} (o : Int32) (C0 : z_cx z_RAr b_Ar_holds 5 (some .boolean) D (z_Kt ca) A p s m args meth c) (q : z_Sg) (x1 : Int32) (x2 : Int32) (t0 : Int32) (h : k_Ar_holds_42 x1 x2 t0 q = some o) : ∀ (H : Heap) (locs : List Loc) (ls : Array Slot), z_wd D (z_K ad ca q) A s H locs → lv_has ls 5 [(1, .int x1), (2, .int x2)] → W p l e (z_rm 0 0) s m args below meth c H locs 0 0 (z_qi below D (z_Kt ca) (z_K ad ca q) A s args o) (F0 m 42 ls [.int t0]) := by
  obtain ⟨hx, hb, hr, hlk, hml, hown, hts, hK, hA⟩ := id C0
  intro H locs ls hw hl
  refine lv_istore_n (lv' := [(3, .int t0), (1, .int x1), (2, .int x2)]) hx hb d_Ar_holds_42 rfl hl (by decide) rfl (fun ls hl => ?_)
  refine lv_iload_n hx hb d_Ar_holds_43 rfl (lv_at hl 1 rfl) ?_
  refine lv_iconst (v := (1 : Int32)) hx hb d_Ar_holds_44 (by decide) ?_
  refine lv_ishr hx hb d_Ar_holds_45 ?_
  refine lv_bipush (v := (7 : Int32)) hx hb d_Ar_holds_46 (by decide) ?_
  refine lv_iand hx hb d_Ar_holds_48 ?_
  by_cases c5 : ((x1 >>> ((1 : Int32) &&& 31)) &&& (7 : Int32)) = (0 : Int32)
  · have h := ok_t h c5
    refine lv_tableIn (off := 43) (tgt := 92) hx hb d_Ar_holds_49 (by rw [c5]; decide) (by rw [c5]; decide) (by rw [c5]; rfl) (by decide) ?_
    refine lv_iload_n hx hb d_Ar_holds_92 rfl (lv_at hl 2 rfl) ?_
    refine lv_sipush (v := (2048 : Int32)) hx hb d_Ar_holds_93 (by decide) ?_
    refine lv_iand hx hb d_Ar_holds_96 ?_
    refine lv_if_eq (tgt := 104) hx hb d_Ar_holds_97 (by decide) (fun c6 => ?_) (fun c6 => ?_)
    · have h := ok_t h c6
      refine lv_iconst (v := (0 : Int32)) hx hb d_Ar_holds_104 (by decide) ?_
      exact w_Ar_holds_105 o C0 q x1 (0 : Int32) h H locs ls hw (lv_sub hl [1] rfl)
    · have h := ok_f h c6
      refine lv_iconst (v := (1 : Int32)) hx hb d_Ar_holds_100 (by decide) ?_
      refine lv_goto (tgt := 105) hx hb d_Ar_holds_101 (by decide) ?_
      exact w_Ar_holds_105 o C0 q x1 (1 : Int32) h H locs ls hw (lv_sub hl [1] rfl)
  have h := ok_f h c5
  by_cases c10 : ((x1 >>> ((1 : Int32) &&& 31)) &&& (7 : Int32)) = (1 : Int32)
  · have h := ok_t h c10
    refine lv_tableIn (off := 61) (tgt := 110) hx hb d_Ar_holds_49 (by rw [c10]; decide) (by rw [c10]; decide) (by rw [c10]; rfl) (by decide) ?_
    refine lv_iload_n hx hb d_Ar_holds_110 rfl (lv_at hl 2 rfl) ?_
    refine lv_iconst (v := (1 : Int32)) hx hb d_Ar_holds_111 (by decide) ?_
    refine lv_iand hx hb d_Ar_holds_112 ?_
    refine lv_if_eq (tgt := 120) hx hb d_Ar_holds_113 (by decide) (fun c11 => ?_) (fun c11 => ?_)
    · have h := ok_t h c11
      refine lv_iconst (v := (0 : Int32)) hx hb d_Ar_holds_120 (by decide) ?_
      exact w_Ar_holds_121 o C0 q x1 (0 : Int32) h H locs ls hw (lv_sub hl [1] rfl)
    · have h := ok_f h c11
      refine lv_iconst (v := (1 : Int32)) hx hb d_Ar_holds_116 (by decide) ?_
      refine lv_goto (tgt := 121) hx hb d_Ar_holds_117 (by decide) ?_
      exact w_Ar_holds_121 o C0 q x1 (1 : Int32) h H locs ls hw (lv_sub hl [1] rfl)
  have h := ok_f h c10
  by_cases c12 : ((x1 >>> ((1 : Int32) &&& 31)) &&& (7 : Int32)) = (2 : Int32)
  · have h := ok_t h c12
    refine lv_tableIn (off := 77) (tgt := 126) hx hb d_Ar_holds_49 (by rw [c12]; decide) (by rw [c12]; decide) (by rw [c12]; rfl) (by decide) ?_
    refine lv_iload_n hx hb d_Ar_holds_126 rfl (lv_at hl 2 rfl) ?_
    refine lv_bipush (v := (64 : Int32)) hx hb d_Ar_holds_127 (by decide) ?_
    refine lv_iand hx hb d_Ar_holds_129 ?_
    refine lv_if_eq (tgt := 137) hx hb d_Ar_holds_130 (by decide) (fun c13 => ?_) (fun c13 => ?_)
    · have h := ok_t h c13
      refine lv_iconst (v := (0 : Int32)) hx hb d_Ar_holds_137 (by decide) ?_
      exact w_Ar_holds_138 o C0 q x1 (0 : Int32) h H locs ls hw (lv_sub hl [1] rfl)
    · have h := ok_f h c13
      refine lv_iconst (v := (1 : Int32)) hx hb d_Ar_holds_133 (by decide) ?_
      refine lv_goto (tgt := 138) hx hb d_Ar_holds_134 (by decide) ?_
      exact w_Ar_holds_138 o C0 q x1 (1 : Int32) h H locs ls hw (lv_sub hl [1] rfl)
  have h := ok_f h c12
  by_cases c14 : ((x1 >>> ((1 : Int32) &&& 31)) &&& (7 : Int32)) = (3 : Int32)
  · have h := ok_t h c14
    refine lv_tableIn (off := 94) (tgt := 143) hx hb d_Ar_holds_49 (by rw [c14]; decide) (by rw [c14]; decide) (by rw [c14]; rfl) (by decide) ?_
    refine lv_iload_n hx hb d_Ar_holds_143 rfl (lv_at hl 2 rfl) ?_
    refine lv_bipush (v := (65 : Int32)) hx hb d_Ar_holds_144 (by decide) ?_
    refine lv_iand hx hb d_Ar_holds_146 ?_
    refine lv_if_eq (tgt := 154) hx hb d_Ar_holds_147 (by decide) (fun c15 => ?_) (fun c15 => ?_)
    · have h := ok_t h c15
      refine lv_iconst (v := (0 : Int32)) hx hb d_Ar_holds_154 (by decide) ?_
      exact w_Ar_holds_155 o C0 q x1 (0 : Int32) h H locs ls hw (lv_sub hl [1] rfl)
    · have h := ok_f h c15
      refine lv_iconst (v := (1 : Int32)) hx hb d_Ar_holds_150 (by decide) ?_
      refine lv_goto (tgt := 155) hx hb d_Ar_holds_151 (by decide) ?_
      exact w_Ar_holds_155 o C0 q x1 (1 : Int32) h H locs ls hw (lv_sub hl [1] rfl)
  have h := ok_f h c14
  by_cases c16 : ((x1 >>> ((1 : Int32) &&& 31)) &&& (7 : Int32)) = (4 : Int32)
  · have h := ok_t h c16
    refine lv_tableIn (off := 111) (tgt := 160) hx hb d_Ar_holds_49 (by rw [c16]; decide) (by rw [c16]; decide) (by rw [c16]; rfl) (by decide) ?_
    refine lv_iload_n hx hb d_Ar_holds_160 rfl (lv_at hl 2 rfl) ?_
    refine lv_sipush (v := (128 : Int32)) hx hb d_Ar_holds_161 (by decide) ?_
    refine lv_iand hx hb d_Ar_holds_164 ?_
    refine lv_if_eq (tgt := 172) hx hb d_Ar_holds_165 (by decide) (fun c17 => ?_) (fun c17 => ?_)
    · have h := ok_t h c17
      refine lv_iconst (v := (0 : Int32)) hx hb d_Ar_holds_172 (by decide) ?_
      exact w_Ar_holds_173 o C0 q x1 (0 : Int32) h H locs ls hw (lv_sub hl [1] rfl)
    · have h := ok_f h c17
      refine lv_iconst (v := (1 : Int32)) hx hb d_Ar_holds_168 (by decide) ?_
      refine lv_goto (tgt := 173) hx hb d_Ar_holds_169 (by decide) ?_
      exact w_Ar_holds_173 o C0 q x1 (1 : Int32) h H locs ls hw (lv_sub hl [1] rfl)
  have h := ok_f h c16
  by_cases c18 : ((x1 >>> ((1 : Int32) &&& 31)) &&& (7 : Int32)) = (5 : Int32)
  · have h := ok_t h c18
    refine lv_tableIn (off := 129) (tgt := 178) hx hb d_Ar_holds_49 (by rw [c18]; decide) (by rw [c18]; decide) (by rw [c18]; rfl) (by decide) ?_
    refine lv_iload_n hx hb d_Ar_holds_178 rfl (lv_at hl 2 rfl) ?_
    refine lv_iconst (v := (4 : Int32)) hx hb d_Ar_holds_179 (by decide) ?_
    refine lv_iand hx hb d_Ar_holds_180 ?_
    refine lv_if_eq (tgt := 188) hx hb d_Ar_holds_181 (by decide) (fun c19 => ?_) (fun c19 => ?_)
    · have h := ok_t h c19
      refine lv_iconst (v := (0 : Int32)) hx hb d_Ar_holds_188 (by decide) ?_
      exact w_Ar_holds_189 o C0 q x1 (0 : Int32) h H locs ls hw (lv_sub hl [1] rfl)
    · have h := ok_f h c19
      refine lv_iconst (v := (1 : Int32)) hx hb d_Ar_holds_184 (by decide) ?_
      refine lv_goto (tgt := 189) hx hb d_Ar_holds_185 (by decide) ?_
      exact w_Ar_holds_189 o C0 q x1 (1 : Int32) h H locs ls hw (lv_sub hl [1] rfl)
  have h := ok_f h c18
  by_cases c20 : ((x1 >>> ((1 : Int32) &&& 31)) &&& (7 : Int32)) = (6 : Int32)
  · have h := ok_t h c20
    refine lv_tableIn (off := 145) (tgt := 194) hx hb d_Ar_holds_49 (by rw [c20]; decide) (by rw [c20]; decide) (by rw [c20]; rfl) (by decide) ?_
    refine lv_iload_n hx hb d_Ar_holds_194 rfl (lv_at hl 0 rfl) ?_
    refine lv_istore (lv' := [(4, .int t0), (3, .int t0), (1, .int x1), (2, .int x2)]) hx hb d_Ar_holds_195 hl (by decide) rfl (fun ls hl => ?_)
    refine lv_goto (tgt := 218) hx hb d_Ar_holds_197 (by decide) ?_
    exact w_Ar_holds_218 o C0 q x1 t0 h H locs ls hw (lv_sub hl [2, 0] rfl)
  have h := ok_f h c20
  refine lv_tableOut (tgt := 200) hx hb d_Ar_holds_49 (by have zc5 := lv_neT c5 (a := 0) rfl; have zc10 := lv_neT c10 (a := 1) rfl; have zc12 := lv_neT c12 (a := 2) rfl; have zc14 := lv_neT c14 (a := 3) rfl; have zc16 := lv_neT c16 (a := 4) rfl; have zc18 := lv_neT c18 (a := 5) rfl; have zc20 := lv_neT c20 (a := 6) rfl; omega) (by decide) ?_
  refine lv_iload_n hx hb d_Ar_holds_200 rfl (lv_at hl 0 rfl) ?_
  refine lv_if_ne (tgt := 211) hx hb d_Ar_holds_201 (by decide) (fun c21 => ?_) (fun c21 => ?_)
  · have h := ok_f h c21
    exact w_Ar_holds_211 o C0 q x1 h H locs ls hw (lv_sub hl [1] rfl)
  · have h := ok_t h c21
    refine lv_iload_n hx hb d_Ar_holds_204 rfl (lv_at hl 2 rfl) ?_
    refine lv_bipush (v := (64 : Int32)) hx hb d_Ar_holds_205 (by decide) ?_
    refine lv_iand hx hb d_Ar_holds_207 ?_
    refine lv_if_eq (tgt := 215) hx hb d_Ar_holds_208 (by decide) (fun c22 => ?_) (fun c22 => ?_)
    · have h := ok_t h c22
      refine lv_iconst (v := (0 : Int32)) hx hb d_Ar_holds_215 (by decide) ?_
      exact w_Ar_holds_216 o C0 q x1 (0 : Int32) h H locs ls hw (lv_sub hl [1] rfl)
    · have h := ok_f h c22
      exact w_Ar_holds_211 o C0 q x1 h H locs ls hw (lv_sub hl [1] rfl)
set_option maxHeartbeats 4000000 in
set_option maxRecDepth 100000 in
theorem w_Ar_holds_34 {p : Program} {l : Launch} {e : Env} {s : State} {m : MethodId} {args : Array Value} {below : List Frame} {meth : Method} {c : Code} {D : va_G} {A : Nat → Prop} {ad : Nat → Nat} {ca : Nat → ClassId} (o : Int32) (C0 : z_cx z_RAr b_Ar_holds 5 (some .boolean) D (z_Kt ca) A p s m args meth c) (q : z_Sg) (x1 : Int32) (x2 : Int32) (t0 : Int32) (t1 : Int32) (h : k_Ar_holds_34 x1 x2 t0 t1 q = some o) : ∀ (H : Heap) (locs : List Loc) (ls : Array Slot), z_wd D (z_K ad ca q) A s H locs → lv_has ls 5 [(1, .int x1), (2, .int x2)] → W p l e (z_rm 0 0) s m args below meth c H locs 0 0 (z_qi below D (z_Kt ca) (z_K ad ca q) A s args o) (F0 m 34 ls [.int t1, .int t0]) := by
  obtain ⟨hx, hb, hr, hlk, hml, hown, hts, hK, hA⟩ := id C0
  intro H locs ls hw hl
  refine lv_icmp_eq (tgt := 41) hx hb d_Ar_holds_34 (by decide) (fun c4 => ?_) (fun c4 => ?_)
  · have h := ok_t h c4
    refine lv_iconst (v := (0 : Int32)) hx hb d_Ar_holds_41 (by decide) ?_
    exact w_Ar_holds_42 o C0 q x1 x2 (0 : Int32) h H locs ls hw (lv_sub hl [0, 1] rfl)
  · have h := ok_f h c4
    refine lv_iconst (v := (1 : Int32)) hx hb d_Ar_holds_37 (by decide) ?_
    refine lv_goto (tgt := 42) hx hb d_Ar_holds_38 (by decide) ?_
    exact w_Ar_holds_42 o C0 q x1 x2 (1 : Int32) h H locs ls hw (lv_sub hl [0, 1] rfl)
set_option maxHeartbeats 4000000 in
set_option maxRecDepth 100000 in
theorem w_Ar_holds_21 {p : Program} {l : Launch} {e : Env} {s : State} {m : MethodId} {args : Array Value} {below : List Frame} {meth : Method} {c : Code} {D : va_G} {A : Nat → Prop} {ad : Nat → Nat} {ca : Nat → ClassId} (o : Int32) (C0 : z_cx z_RAr b_Ar_holds 5 (some .boolean) D (z_Kt ca) A p s m args meth c) (q : z_Sg) (x1 : Int32) (x2 : Int32) (t0 : Int32) (h : k_Ar_holds_21 x1 x2 t0 q = some o) : ∀ (H : Heap) (locs : List Loc) (ls : Array Slot), z_wd D (z_K ad ca q) A s H locs → lv_has ls 5 [(1, .int x1), (2, .int x2)] → W p l e (z_rm 0 0) s m args below meth c H locs 0 0 (z_qi below D (z_Kt ca) (z_K ad ca q) A s args o) (F0 m 21 ls [.int t0]) := by
  obtain ⟨hx, hb, hr, hlk, hml, hown, hts, hK, hA⟩ := id C0
  intro H locs ls hw hl
  refine lv_iload_n hx hb d_Ar_holds_21 rfl (lv_at hl 1 rfl) ?_
  refine lv_sipush (v := (2048 : Int32)) hx hb d_Ar_holds_22 (by decide) ?_
  refine lv_iand hx hb d_Ar_holds_25 ?_
  refine lv_if_eq (tgt := 33) hx hb d_Ar_holds_26 (by decide) (fun c3 => ?_) (fun c3 => ?_)
  · have h := ok_t h c3
    refine lv_iconst (v := (0 : Int32)) hx hb d_Ar_holds_33 (by decide) ?_
    exact w_Ar_holds_34 o C0 q x1 x2 t0 (0 : Int32) h H locs ls hw (lv_sub hl [0, 1] rfl)
  · have h := ok_f h c3
    refine lv_iconst (v := (1 : Int32)) hx hb d_Ar_holds_29 (by decide) ?_
    refine lv_goto (tgt := 34) hx hb d_Ar_holds_30 (by decide) ?_
    exact w_Ar_holds_34 o C0 q x1 x2 t0 (1 : Int32) h H locs ls hw (lv_sub hl [0, 1] rfl)
set_option maxHeartbeats 4000000 in
set_option maxRecDepth 100000 in
theorem c_Ar_holds {l : Launch} {D : va_G} {ad : Nat → Nat} {ca : Nat → ClassId} (x1 : Int32) (q : z_Sg) (o : Int32) (h : f_Ar_holds x1 q = some o) : z_ci l y_Ar_holds b_Ar_holds 5 (some .boolean) 0 0 D (z_Kt ca) (z_K ad ca q) (z_K ad ca q) [.ref (ad 9), .int x1] o := by
  refine z_ci_of (own := z_RAr) (by decide) rfl ?_
  intro p e s m below meth c A C0 hw
  obtain ⟨hx, hb, hr, hlk, hml, hown, hts, hK, hA⟩ := id C0
  generalize hH : s.heap = H at hw ⊢
  generalize hlo : ([] : List Loc) = locs at hw ⊢
  refine z_entry (lv := [(0, .ref (ad 9)), (1, .int x1)]) (Nat.le_of_ble_eq_true rfl) rfl (fun ls hl => ?_)
  unfold f_Ar_holds at h
  refine lv_aload_n hx hb d_Ar_holds_0 rfl (lv_at hl 0 rfl) ?_
  refine gfK_9_state C0 hw fl_Ar_9 d_Ar_holds_1 ?_
  refine gfK_1_flags C0 hw fl_Ar_17 d_Ar_holds_4 ?_
  obtain ⟨n1, en1, h⟩ := ok_n h
  refine z_ti en1 ?_
  refine lv_istore_n (lv' := [(2, .int n1), (0, .ref (ad 9)), (1, .int x1)]) hx hb d_Ar_holds_7 rfl hl (by decide) rfl (fun ls hl => ?_)
  refine lv_iload_n hx hb d_Ar_holds_8 rfl (lv_at hl 0 rfl) ?_
  refine lv_sipush (v := (128 : Int32)) hx hb d_Ar_holds_9 (by decide) ?_
  refine lv_iand hx hb d_Ar_holds_12 ?_
  refine lv_if_eq (tgt := 20) hx hb d_Ar_holds_13 (by decide) (fun c2 => ?_) (fun c2 => ?_)
  · have h := ok_t h c2
    refine lv_iconst (v := (0 : Int32)) hx hb d_Ar_holds_20 (by decide) ?_
    exact w_Ar_holds_21 o C0 q x1 n1 (0 : Int32) h H locs ls hw (lv_sub hl [2, 0] rfl)
  · have h := ok_f h c2
    refine lv_iconst (v := (1 : Int32)) hx hb d_Ar_holds_16 (by decide) ?_
    refine lv_goto (tgt := 21) hx hb d_Ar_holds_17 (by decide) ?_
    exact w_Ar_holds_21 o C0 q x1 n1 (1 : Int32) h H locs ls hw (lv_sub hl [2, 0] rfl)
def f_Fl_jump (x1 : Int64) (q : z_Sg) : Option (Int32 × z_Sg) :=
  (f_Pa_isWrong x1 q).bind (fun r1 => if r1 = 0 then (z_nm (z_sL q 10 x1) (fun q3 => some ((-1 : Int32), q3))) else (some ((13 : Int32), q)))
set_option maxHeartbeats 4000000 in
set_option maxRecDepth 100000 in
theorem c_Fl_jump {l : Launch} {D : va_G} {ad : Nat → Nat} {ca : Nat → ClassId} (x1 : Int64) (q : z_Sg) (o : (Int32 × z_Sg)) (h : f_Fl_jump x1 q = some o) : z_ci l y_Fl_jump b_Fl_jump 3 (some .int) 1 23 D (z_Kt ca) (z_K ad ca q) (z_K ad ca o.2) [.ref (ad 11), .long x1] o.1 := by
  refine z_ci_of (own := z_RFl) (by decide) rfl ?_
  intro p e s m below meth c A C0 hw
  obtain ⟨hx, hb, hr, hlk, hml, hown, hts, hK, hA⟩ := id C0
  generalize hH : s.heap = H at hw ⊢
  generalize hlo : ([] : List Loc) = locs at hw ⊢
  refine z_entry (lv := [(0, .ref (ad 11)), (1, .long x1)]) (Nat.le_of_ble_eq_true rfl) rfl (fun ls hl => ?_)
  unfold f_Fl_jump at h
  refine lv_lload_n hx hb d_Fl_jump_0 rfl (lv_at hl 1 rfl) ?_
  obtain ⟨r1, er1, h⟩ := ok_b h
  refine z_si (rest := []) C0 hw (c_Pa_isWrong x1 q r1 er1) mw_Pa_isWrong ml_Fl_121 ⟨Nat.le_of_ble_eq_true rfl, Nat.le_of_ble_eq_true rfl⟩ ⟨Nat.le_refl 0, Nat.le_refl 0⟩ rfl hl.1 rfl (Nat.le_of_ble_eq_true rfl) d_Fl_jump_1 (fun H locs hw => ?_)
  refine lv_if_eq (tgt := 10) hx hb d_Fl_jump_4 (by decide) (fun c2 => ?_) (fun c2 => ?_)
  · have h := ok_t h c2
    refine lv_aload_n hx hb d_Fl_jump_10 rfl (lv_at hl 0 rfl) ?_
    refine gfK_11_code C0 hw fl_Fl_15 d_Fl_jump_11 ?_
    refine lv_lload_n hx hb d_Fl_jump_14 rfl (lv_at hl 1 rfl) ?_
    refine pfK_5_onward C0 hw fl_Fl_64 d_Fl_jump_15 (fun H locs hw => ?_)
    obtain ⟨q3, eq3, h⟩ := ok_n h
    rw [← eq3] at hw
    refine lv_iconst (v := (-1 : Int32)) hx hb d_Fl_jump_18 (by decide) ?_
    have ho := Option.some.inj h
    subst ho
    exact z_rti C0 hw d_Fl_jump_19
  · have h := ok_f h c2
    refine lv_bipush (v := (13 : Int32)) hx hb d_Fl_jump_7 (by decide) ?_
    have ho := Option.some.inj h
    subst ho
    exact z_rti C0 hw d_Fl_jump_9
def kb_Sp_put_7_2 (ih2 : Int64 × Int32 × z_Sg → Option z_Sg) (x1 : Int64) (x3 : Int32) (q : z_Sg) : Option z_Sg :=
  if (z_gI q 16) ≤ x3 then (some q) else (if z_bad x3 8 then none else ((f_Pa_putByte (z_gM q 2 x3.toNatClampNeg) (z_lushr x1 ((8 : Int32) * x3)) q).bind (fun r3 => z_nm (x3 + (1 : Int32)) (fun n4 => ih2 (x1, n4, r3)))))
def k_Sp_put_7_2 (x1 : Int64) (x3 : Int32) (q : z_Sg) : Option z_Sg := z_lo (fun ih2 a => kb_Sp_put_7_2 ih2 a.1 a.2.1 a.2.2) 2000 (x1, x3, q)
def f_Sp_put_7 (x1 : Int64) (q : z_Sg) : Option z_Sg :=
  k_Sp_put_7_2 x1 (0 : Int32) q
set_option maxHeartbeats 4000000 in
set_option maxRecDepth 100000 in
theorem wb_Sp_put_7_2 {p : Program} {l : Launch} {e : Env} {s : State} {m : MethodId} {args : Array Value} {below : List Frame} {meth : Method} {c : Code} {D : va_G} {A : Nat → Prop} {ad : Nat → Nat} {ca : Nat → ClassId} (o : z_Sg) (C0 : z_cx z_RSp b_Sp_put 4 none D (z_Kt ca) A p s m args meth c) (q : z_Sg) (ih2 : Int64 × Int32 × z_Sg → Option z_Sg) (hi2 : ∀ a : Int64 × Int32 × z_Sg, ih2 a = some o → ∀ (H : Heap) (locs : List Loc) (ls : Array Slot), z_wd D (z_K ad ca a.2.2) A s H locs → lv_has ls 4 [(0, .ref (ad 7)), (1, .long a.1), (3, .int a.2.1)] → W p l e (z_rm 1 26) s m args below meth c H locs 0 0 (z_qv below D (z_Kt ca) (z_K ad ca o) A s args) (F0 m 2 ls [])) (x1 : Int64) (x3 : Int32) (h : kb_Sp_put_7_2 ih2 x1 x3 q = some o) : ∀ (H : Heap) (locs : List Loc) (ls : Array Slot), z_wd D (z_K ad ca q) A s H locs → lv_has ls 4 [(0, .ref (ad 7)), (1, .long x1), (3, .int x3)] → W p l e (z_rm 1 26) s m args below meth c H locs 0 0 (z_qv below D (z_Kt ca) (z_K ad ca o) A s args) (F0 m 2 ls []) := by
  obtain ⟨hx, hb, hr, hlk, hml, hown, hts, hK, hA⟩ := id C0
  intro H locs ls hw hl
  refine lv_iload_n hx hb d_Sp_put_2 rfl (lv_at hl 2 rfl) ?_
  refine lv_aload_n hx hb d_Sp_put_3 rfl (lv_at hl 0 rfl) ?_
  refine gfK_7_length C0 hw fl_Sp_25 d_Sp_put_4 ?_
  refine lv_icmp_ge (tgt := 35) hx hb d_Sp_put_7 (by decide) (fun c1 => ?_) (fun c1 => ?_)
  · have h := ok_t h c1
    have ho := Option.some.inj h
    subst ho
    exact z_rtv C0 hw d_Sp_put_35
  · have h := ok_f h c1
    refine lv_aload_n hx hb d_Sp_put_10 rfl (lv_at hl 0 rfl) ?_
    refine gfK_7_pages C0 hw fl_Sp_15 d_Sp_put_11 ?_
    refine lv_aload_n hx hb d_Sp_put_14 rfl (lv_at hl 0 rfl) ?_
    refine gfK_7_at C0 hw fl_Sp_9 d_Sp_put_15 ?_
    refine lv_iload_n hx hb d_Sp_put_18 rfl (lv_at hl 2 rfl) ?_
    obtain ⟨b2, h⟩ := ok_g h
    refine alK_8 C0 hw b2 d_Sp_put_19 ?_
    refine lv_lload_n hx hb d_Sp_put_20 rfl (lv_at hl 1 rfl) ?_
    refine lv_bipush (v := (8 : Int32)) hx hb d_Sp_put_21 (by decide) ?_
    refine lv_iload_n hx hb d_Sp_put_23 rfl (lv_at hl 2 rfl) ?_
    refine lv_imul hx hb d_Sp_put_24 ?_
    refine lv_lushr (v := (z_lushr x1 ((8 : Int32) * x3))) hx hb d_Sp_put_25 rfl ?_
    obtain ⟨r3, er3, h⟩ := ok_b h
    refine z_vv (rest := []) C0 hw (c_Pa_putByte (z_gM q 2 x3.toNatClampNeg) (z_lushr x1 ((8 : Int32) * x3)) q r3 er3) mw_Pa_putByte ml_Sp_45 3 rfl ⟨Nat.le_of_ble_eq_true rfl, Nat.le_of_ble_eq_true rfl⟩ ⟨Nat.le_refl 0, Nat.le_refl 0⟩ rfl hl.1 rfl (Nat.le_of_ble_eq_true rfl) d_Sp_put_26 (fun H locs hw => ?_)
    obtain ⟨n4, en4, h⟩ := ok_n h
    refine lv_iinc (v := n4) (lv' := [(3, .int n4), (0, .ref (ad 7)), (1, .long x1)]) hx hb d_Sp_put_29 hl (k := 2) rfl (by rw [en4]; rfl) (by decide) rfl (fun ls hl => ?_)
    refine lv_goto (tgt := 2) hx hb d_Sp_put_32 (by decide) ?_
    exact hi2 (x1, n4, r3) h H locs ls hw (lv_sub hl [1, 2, 0] rfl)
theorem w_Sp_put_7_2 {p : Program} {l : Launch} {e : Env} {s : State} {m : MethodId} {args : Array Value} {below : List Frame} {meth : Method} {c : Code} {D : va_G} {A : Nat → Prop} {ad : Nat → Nat} {ca : Nat → ClassId} (o : z_Sg) (C0 : z_cx z_RSp b_Sp_put 4 none D (z_Kt ca) A p s m args meth c) (q : z_Sg) (x1 : Int64) (x3 : Int32) (h : k_Sp_put_7_2 x1 x3 q = some o) : ∀ (H : Heap) (locs : List Loc) (ls : Array Slot), z_wd D (z_K ad ca q) A s H locs → lv_has ls 4 [(0, .ref (ad 7)), (1, .long x1), (3, .int x3)] → W p l e (z_rm 1 26) s m args below meth c H locs 0 0 (z_qv below D (z_Kt ca) (z_K ad ca o) A s args) (F0 m 2 ls []) := by
  have key : ∀ (n : Nat) (a : Int64 × Int32 × z_Sg), z_lo (fun ih2 a => kb_Sp_put_7_2 ih2 a.1 a.2.1 a.2.2) n a = some o → ∀ (H : Heap) (locs : List Loc) (ls : Array Slot), z_wd D (z_K ad ca a.2.2) A s H locs → lv_has ls 4 [(0, .ref (ad 7)), (1, .long a.1), (3, .int a.2.1)] → W p l e (z_rm 1 26) s m args below meth c H locs 0 0 (z_qv below D (z_Kt ca) (z_K ad ca o) A s args) (F0 m 2 ls []) := by
    intro n
    induction n with
    | zero => intro a h; cases h
    | succ n ih => exact fun a h => wb_Sp_put_7_2 o C0 a.2.2 (z_lo (fun ih2 a => kb_Sp_put_7_2 ih2 a.1 a.2.1 a.2.2) n) ih a.1 a.2.1 h
  exact key 2000 (x1, x3, q) h
set_option maxHeartbeats 4000000 in
set_option maxRecDepth 100000 in
theorem c_Sp_put_7 {l : Launch} {D : va_G} {ad : Nat → Nat} {ca : Nat → ClassId} (x1 : Int64) (q : z_Sg) (o : z_Sg) (h : f_Sp_put_7 x1 q = some o) : z_cv l y_Sp_put b_Sp_put 4 none 1 26 D (z_Kt ca) (z_K ad ca q) (z_K ad ca o) [.ref (ad 7), .long x1] := by
  refine z_cv_of (own := z_RSp) (by decide) rfl ?_
  intro p e s m below meth c A C0 hw
  obtain ⟨hx, hb, hr, hlk, hml, hown, hts, hK, hA⟩ := id C0
  generalize hH : s.heap = H at hw ⊢
  generalize hlo : ([] : List Loc) = locs at hw ⊢
  refine z_entry (lv := [(0, .ref (ad 7)), (1, .long x1)]) (Nat.le_of_ble_eq_true rfl) rfl (fun ls hl => ?_)
  unfold f_Sp_put_7 at h
  refine lv_iconst (v := (0 : Int32)) hx hb d_Sp_put_0 (by decide) ?_
  refine lv_istore_n (lv' := [(3, .int (0 : Int32)), (0, .ref (ad 7)), (1, .long x1)]) hx hb d_Sp_put_1 rfl hl (by decide) rfl (fun ls hl => ?_)
  exact w_Sp_put_7_2 o C0 q x1 (0 : Int32) h H locs ls hw (lv_sub hl [1, 2, 0] rfl)
def f_De_registerE (q : z_Sg) : Option Int32 :=
  (f_De_extension (1 : Int32) q).bind (fun r1 => some ((z_gI q 14) ||| r1))
set_option maxHeartbeats 4000000 in
set_option maxRecDepth 100000 in
theorem c_De_registerE {l : Launch} {D : va_G} {ad : Nat → Nat} {ca : Nat → ClassId} (q : z_Sg) (o : Int32) (h : f_De_registerE q = some o) : z_ci l y_De_registerE b_De_registerE 1 (some .int) 1 21 D (z_Kt ca) (z_K ad ca q) (z_K ad ca q) [.ref (ad 5)] o := by
  refine z_ci_of (own := z_RDe) (by decide) rfl ?_
  intro p e s m below meth c A C0 hw
  obtain ⟨hx, hb, hr, hlk, hml, hown, hts, hK, hA⟩ := id C0
  generalize hH : s.heap = H at hw ⊢
  generalize hlo : ([] : List Loc) = locs at hw ⊢
  refine z_entry (lv := [(0, .ref (ad 5))]) (Nat.le_of_ble_eq_true rfl) rfl (fun ls hl => ?_)
  unfold f_De_registerE at h
  refine lv_aload_n hx hb d_De_registerE_0 rfl (lv_at hl 0 rfl) ?_
  refine gfK_5_rm C0 hw fl_De_106 d_De_registerE_1 ?_
  refine lv_aload_n hx hb d_De_registerE_4 rfl (lv_at hl 0 rfl) ?_
  refine lv_iconst (v := (1 : Int32)) hx hb d_De_registerE_5 (by decide) ?_
  obtain ⟨r1, er1, h⟩ := ok_b h
  refine z_vi (rest := [.int (z_gI q 14)]) C0 hw (c_De_extension (1 : Int32) q r1 er1) mw_De_extension ml_De_113 5 rfl ⟨Nat.le_of_ble_eq_true rfl, Nat.le_of_ble_eq_true rfl⟩ ⟨Nat.le_refl 0, Nat.le_refl 0⟩ rfl hl.1 rfl (Nat.le_of_ble_eq_true rfl) d_De_registerE_6 (fun H locs hw => ?_)
  refine lv_ior hx hb d_De_registerE_9 ?_
  have ho := Option.some.inj h
  subst ho
  exact z_rti C0 hw d_De_registerE_10
def k_Op_put_38 (q : z_Sg) : Option z_Sg :=
  some q
def f_Op_put (x1 : Int64) (q : z_Sg) : Option z_Sg :=
  if (z_gI q 12) = (3 : Int32) then ((f_De_registerE q).bind (fun r3 => (f_Op_putPart r3 x1 (z_gI q 15) q).bind (fun r4 => k_Op_put_38 r4))) else ((f_Sp_put_7 x1 q).bind (fun r2 => k_Op_put_38 r2))
set_option maxHeartbeats 4000000 in
set_option maxRecDepth 100000 in
theorem w_Op_put_38 {p : Program} {l : Launch} {e : Env} {s : State} {m : MethodId} {args : Array Value} {below : List Frame} {meth : Method} {c : Code} {D : va_G} {A : Nat → Prop} {ad : Nat → Nat} {ca : Nat → ClassId} (o : z_Sg) (C0 : z_cx z_ROp b_Op_put 3 none D (z_Kt ca) A p s m args meth c) (q : z_Sg) (h : k_Op_put_38 q = some o) : ∀ (H : Heap) (locs : List Loc) (ls : Array Slot), z_wd D (z_K ad ca q) A s H locs → lv_has ls 3 [] → W p l e (z_rm 2 50) s m args below meth c H locs 0 0 (z_qv below D (z_Kt ca) (z_K ad ca o) A s args) (F0 m 38 ls []) := by
  obtain ⟨hx, hb, hr, hlk, hml, hown, hts, hK, hA⟩ := id C0
  intro H locs ls hw hl
  have ho := Option.some.inj h
  subst ho
  exact z_rtv C0 hw d_Op_put_38
set_option maxHeartbeats 4000000 in
set_option maxRecDepth 100000 in
theorem c_Op_put {l : Launch} {D : va_G} {ad : Nat → Nat} {ca : Nat → ClassId} (x1 : Int64) (q : z_Sg) (o : z_Sg) (h : f_Op_put x1 q = some o) : z_cv l y_Op_put b_Op_put 3 none 2 50 D (z_Kt ca) (z_K ad ca q) (z_K ad ca o) [.ref (ad 6), .long x1] := by
  refine z_cv_of (own := z_ROp) (by decide) rfl ?_
  intro p e s m below meth c A C0 hw
  obtain ⟨hx, hb, hr, hlk, hml, hown, hts, hK, hA⟩ := id C0
  generalize hH : s.heap = H at hw ⊢
  generalize hlo : ([] : List Loc) = locs at hw ⊢
  refine z_entry (lv := [(0, .ref (ad 6)), (1, .long x1)]) (Nat.le_of_ble_eq_true rfl) rfl (fun ls hl => ?_)
  unfold f_Op_put at h
  refine lv_aload_n hx hb d_Op_put_0 rfl (lv_at hl 0 rfl) ?_
  refine gfK_6_code C0 hw fl_Op_15 d_Op_put_1 ?_
  refine gfK_5_mod C0 hw fl_Op_31 d_Op_put_4 ?_
  refine lv_iconst (v := (3 : Int32)) hx hb d_Op_put_7 (by decide) ?_
  refine lv_icmp_ne (tgt := 30) hx hb d_Op_put_8 (by decide) (fun c1 => ?_) (fun c1 => ?_)
  · have h := ok_f h c1
    refine lv_aload_n hx hb d_Op_put_30 rfl (lv_at hl 0 rfl) ?_
    refine gfK_6_span C0 hw fl_Op_19 d_Op_put_31 ?_
    refine lv_lload_n hx hb d_Op_put_34 rfl (lv_at hl 1 rfl) ?_
    obtain ⟨r2, er2, h⟩ := ok_b h
    refine z_vv (rest := []) C0 hw (c_Sp_put_7 x1 q r2 er2) mw_Sp_put ml_Op_112 7 rfl ⟨Nat.le_of_ble_eq_true rfl, Nat.le_of_ble_eq_true rfl⟩ ⟨Nat.le_refl 0, Nat.le_refl 0⟩ rfl hl.1 rfl (Nat.le_of_ble_eq_true rfl) d_Op_put_35 (fun H locs hw => ?_)
    exact w_Op_put_38 o C0 r2 h H locs ls hw (lv_sub hl [] rfl)
  · have h := ok_t h c1
    refine lv_aload_n hx hb d_Op_put_11 rfl (lv_at hl 0 rfl) ?_
    refine lv_aload_n hx hb d_Op_put_12 rfl (lv_at hl 0 rfl) ?_
    refine gfK_6_code C0 hw fl_Op_15 d_Op_put_13 ?_
    obtain ⟨r3, er3, h⟩ := ok_b h
    refine z_vi (rest := [.ref (ad 6)]) C0 hw (c_De_registerE q r3 er3) mw_De_registerE ml_Op_98 5 rfl ⟨Nat.le_of_ble_eq_true rfl, Nat.le_of_ble_eq_true rfl⟩ ⟨Nat.le_refl 0, Nat.le_refl 0⟩ rfl hl.1 rfl (Nat.le_of_ble_eq_true rfl) d_Op_put_16 (fun H locs hw => ?_)
    refine lv_lload_n hx hb d_Op_put_19 rfl (lv_at hl 1 rfl) ?_
    refine lv_aload_n hx hb d_Op_put_20 rfl (lv_at hl 0 rfl) ?_
    refine gfK_6_bytes C0 hw fl_Op_27 d_Op_put_21 ?_
    obtain ⟨r4, er4, h⟩ := ok_b h
    refine z_vv (rest := []) C0 hw (c_Op_putPart r3 x1 (z_gI q 15) q r4 er4) mw_Op_putPart ml_Op_108 6 rfl ⟨Nat.le_of_ble_eq_true rfl, Nat.le_of_ble_eq_true rfl⟩ ⟨Nat.le_refl 0, Nat.le_refl 0⟩ rfl hl.1 rfl (Nat.le_of_ble_eq_true rfl) d_Op_put_24 (fun H locs hw => ?_)
    refine lv_goto (tgt := 38) hx hb d_Op_put_27 (by decide) ?_
    exact w_Op_put_38 o C0 r4 h H locs ls hw (lv_sub hl [] rfl)
def k_De_placeOfE_93 (x3 : Int64) (q : z_Sg) : Option Int64 :=
  some x3
def k_De_placeOfE_63 (x3 : Int64) (q : z_Sg) : Option Int64 :=
  if (z_gI q 8) < 0 then (k_De_placeOfE_93 x3 q) else (if z_bad ((z_gI q 8) &&& (15 : Int32)) 16 then none else (z_nm ((x3 + (z_lshl (z_gM q 0 ((z_gI q 8) &&& (15 : Int32)).toNatClampNeg) (z_gI q 9)))) (fun n6 => k_De_placeOfE_93 n6 q)))
def k_De_placeOfE_60 (t0 : Int64) (t1 : Int64) (t2 : Int64) (q : z_Sg) : Option Int64 :=
  z_nm ((t0 + (t1 + t2))) (fun n9 => k_De_placeOfE_63 n9 q)
def f_De_placeOfE (x1 : Int64) (q : z_Sg) : Option Int64 :=
  z_nm ((z_gL q 8)) (fun n1 => if (z_gI q 7) = (-2 : Int32) then (z_nm ((n1 + (z_gL q 10))) (fun n10 => k_De_placeOfE_63 n10 q)) else (if (z_gI q 7) < 0 then (k_De_placeOfE_63 n1 q) else (if z_bad ((z_gI q 7) &&& (15 : Int32)) 16 then none else (if (z_gI q 7) = (4 : Int32) then (k_De_placeOfE_60 n1 (z_gM q 0 ((z_gI q 7) &&& (15 : Int32)).toNatClampNeg) x1 q) else (k_De_placeOfE_60 n1 (z_gM q 0 ((z_gI q 7) &&& (15 : Int32)).toNatClampNeg) (0 : Int64) q)))))
set_option maxHeartbeats 4000000 in
set_option maxRecDepth 100000 in
theorem w_De_placeOfE_93 {p : Program} {l : Launch} {e : Env} {s : State} {m : MethodId} {args : Array Value} {below : List Frame} {meth : Method} {c : Code} {D : va_G} {A : Nat → Prop} {ad : Nat → Nat} {ca : Nat → ClassId} (o : Int64) (C0 : z_cx z_RDe b_De_placeOfE 5 (some .long) D (z_Kt ca) A p s m args meth c) (q : z_Sg) (x3 : Int64) (h : k_De_placeOfE_93 x3 q = some o) : ∀ (H : Heap) (locs : List Loc) (ls : Array Slot), z_wd D (z_K ad ca q) A s H locs → lv_has ls 5 [(3, .long x3)] → W p l e (z_rm 0 0) s m args below meth c H locs 0 0 (z_ql below D (z_Kt ca) (z_K ad ca q) A s args o) (F0 m 93 ls []) := by
  obtain ⟨hx, hb, hr, hlk, hml, hown, hts, hK, hA⟩ := id C0
  intro H locs ls hw hl
  refine lv_lload_n hx hb d_De_placeOfE_93 rfl (lv_at hl 0 rfl) ?_
  have ho := Option.some.inj h
  subst ho
  exact z_rtl C0 hw d_De_placeOfE_94
set_option maxHeartbeats 4000000 in
set_option maxRecDepth 100000 in
theorem w_De_placeOfE_63 {p : Program} {l : Launch} {e : Env} {s : State} {m : MethodId} {args : Array Value} {below : List Frame} {meth : Method} {c : Code} {D : va_G} {A : Nat → Prop} {ad : Nat → Nat} {ca : Nat → ClassId} (o : Int64) (C0 : z_cx z_RDe b_De_placeOfE 5 (some .long) D (z_Kt ca) A p s m args meth c) (q : z_Sg) (x3 : Int64) (h : k_De_placeOfE_63 x3 q = some o) : ∀ (H : Heap) (locs : List Loc) (ls : Array Slot), z_wd D (z_K ad ca q) A s H locs → lv_has ls 5 [(0, .ref (ad 5)), (3, .long x3)] → W p l e (z_rm 0 0) s m args below meth c H locs 0 0 (z_ql below D (z_Kt ca) (z_K ad ca q) A s args o) (F0 m 63 ls []) := by
  obtain ⟨hx, hb, hr, hlk, hml, hown, hts, hK, hA⟩ := id C0
  intro H locs ls hw hl
  refine lv_aload_n hx hb d_De_placeOfE_63 rfl (lv_at hl 0 rfl) ?_
  refine gfK_5_index C0 hw fl_De_119 d_De_placeOfE_64 ?_
  refine lv_if_lt (tgt := 93) hx hb d_De_placeOfE_67 (by decide) (fun c4 => ?_) (fun c4 => ?_)
  · have h := ok_t h c4
    exact w_De_placeOfE_93 o C0 q x3 h H locs ls hw (lv_sub hl [1] rfl)
  · have h := ok_f h c4
    refine lv_lload_n hx hb d_De_placeOfE_70 rfl (lv_at hl 1 rfl) ?_
    refine lv_aload_n hx hb d_De_placeOfE_71 rfl (lv_at hl 0 rfl) ?_
    refine gfK_5_state C0 hw fl_De_9 d_De_placeOfE_72 ?_
    refine gfK_1_registers C0 hw fl_De_158 d_De_placeOfE_75 ?_
    refine lv_aload_n hx hb d_De_placeOfE_78 rfl (lv_at hl 0 rfl) ?_
    refine gfK_5_index C0 hw fl_De_119 d_De_placeOfE_79 ?_
    refine lv_bipush (v := (15 : Int32)) hx hb d_De_placeOfE_82 (by decide) ?_
    refine lv_iand hx hb d_De_placeOfE_84 ?_
    obtain ⟨b5, h⟩ := ok_g h
    refine alK_2 C0 hw b5 d_De_placeOfE_85 ?_
    refine lv_aload_n hx hb d_De_placeOfE_86 rfl (lv_at hl 0 rfl) ?_
    refine gfK_5_scale C0 hw fl_De_122 d_De_placeOfE_87 ?_
    refine lv_lshl (v := (z_lshl (z_gM q 0 ((z_gI q 8) &&& (15 : Int32)).toNatClampNeg) (z_gI q 9))) hx hb d_De_placeOfE_90 rfl ?_
    refine lv_ladd hx hb d_De_placeOfE_91 ?_
    obtain ⟨n6, en6, h⟩ := ok_n h
    refine z_tl en6 ?_
    refine lv_lstore_n (lv' := [(3, .long n6), (0, .ref (ad 5))]) hx hb d_De_placeOfE_92 rfl hl (by decide) rfl (fun ls hl => ?_)
    exact w_De_placeOfE_93 o C0 q n6 h H locs ls hw (lv_sub hl [0] rfl)
set_option maxHeartbeats 4000000 in
set_option maxRecDepth 100000 in
theorem w_De_placeOfE_60 {p : Program} {l : Launch} {e : Env} {s : State} {m : MethodId} {args : Array Value} {below : List Frame} {meth : Method} {c : Code} {D : va_G} {A : Nat → Prop} {ad : Nat → Nat} {ca : Nat → ClassId} (o : Int64) (C0 : z_cx z_RDe b_De_placeOfE 5 (some .long) D (z_Kt ca) A p s m args meth c) (q : z_Sg) (t0 : Int64) (t1 : Int64) (t2 : Int64) (h : k_De_placeOfE_60 t0 t1 t2 q = some o) : ∀ (H : Heap) (locs : List Loc) (ls : Array Slot), z_wd D (z_K ad ca q) A s H locs → lv_has ls 5 [(0, .ref (ad 5))] → W p l e (z_rm 0 0) s m args below meth c H locs 0 0 (z_ql below D (z_Kt ca) (z_K ad ca q) A s args o) (F0 m 60 ls [.long t2, .long t1, .long t0]) := by
  obtain ⟨hx, hb, hr, hlk, hml, hown, hts, hK, hA⟩ := id C0
  intro H locs ls hw hl
  refine lv_ladd hx hb d_De_placeOfE_60 ?_
  refine lv_ladd hx hb d_De_placeOfE_61 ?_
  obtain ⟨n9, en9, h⟩ := ok_n h
  refine z_tl en9 ?_
  refine lv_lstore_n (lv' := [(3, .long n9), (0, .ref (ad 5))]) hx hb d_De_placeOfE_62 rfl hl (by decide) rfl (fun ls hl => ?_)
  exact w_De_placeOfE_63 o C0 q n9 h H locs ls hw (lv_sub hl [1, 0] rfl)
set_option maxHeartbeats 4000000 in
set_option maxRecDepth 100000 in
theorem c_De_placeOfE {l : Launch} {D : va_G} {ad : Nat → Nat} {ca : Nat → ClassId} (x1 : Int64) (q : z_Sg) (o : Int64) (h : f_De_placeOfE x1 q = some o) : z_cl l y_De_placeOfE b_De_placeOfE 5 (some .long) 0 0 D (z_Kt ca) (z_K ad ca q) (z_K ad ca q) [.ref (ad 5), .long x1] o := by
  refine z_cl_of (own := z_RDe) (by decide) rfl ?_
  intro p e s m below meth c A C0 hw
  obtain ⟨hx, hb, hr, hlk, hml, hown, hts, hK, hA⟩ := id C0
  generalize hH : s.heap = H at hw ⊢
  generalize hlo : ([] : List Loc) = locs at hw ⊢
  refine z_entry (lv := [(0, .ref (ad 5)), (1, .long x1)]) (Nat.le_of_ble_eq_true rfl) rfl (fun ls hl => ?_)
  unfold f_De_placeOfE at h
  refine lv_aload_n hx hb d_De_placeOfE_0 rfl (lv_at hl 0 rfl) ?_
  refine gfK_5_displacement C0 hw fl_De_125 d_De_placeOfE_1 ?_
  obtain ⟨n1, en1, h⟩ := ok_n h
  refine z_tl en1 ?_
  refine lv_lstore_n (lv' := [(3, .long n1), (0, .ref (ad 5)), (1, .long x1)]) hx hb d_De_placeOfE_4 rfl hl (by decide) rfl (fun ls hl => ?_)
  refine lv_aload_n hx hb d_De_placeOfE_5 rfl (lv_at hl 1 rfl) ?_
  refine gfK_5_base C0 hw fl_De_116 d_De_placeOfE_6 ?_
  refine lv_bipush (v := (-2 : Int32)) hx hb d_De_placeOfE_9 (by decide) ?_
  refine lv_icmp_ne (tgt := 24) hx hb d_De_placeOfE_11 (by decide) (fun c2 => ?_) (fun c2 => ?_)
  · have h := ok_f h c2
    refine lv_aload_n hx hb d_De_placeOfE_24 rfl (lv_at hl 1 rfl) ?_
    refine gfK_5_base C0 hw fl_De_116 d_De_placeOfE_25 ?_
    refine lv_if_lt (tgt := 63) hx hb d_De_placeOfE_28 (by decide) (fun c3 => ?_) (fun c3 => ?_)
    · have h := ok_t h c3
      exact w_De_placeOfE_63 o C0 q n1 h H locs ls hw (lv_sub hl [1, 0] rfl)
    · have h := ok_f h c3
      refine lv_lload_n hx hb d_De_placeOfE_31 rfl (lv_at hl 0 rfl) ?_
      refine lv_aload_n hx hb d_De_placeOfE_32 rfl (lv_at hl 1 rfl) ?_
      refine gfK_5_state C0 hw fl_De_9 d_De_placeOfE_33 ?_
      refine gfK_1_registers C0 hw fl_De_158 d_De_placeOfE_36 ?_
      refine lv_aload_n hx hb d_De_placeOfE_39 rfl (lv_at hl 1 rfl) ?_
      refine gfK_5_base C0 hw fl_De_116 d_De_placeOfE_40 ?_
      refine lv_bipush (v := (15 : Int32)) hx hb d_De_placeOfE_43 (by decide) ?_
      refine lv_iand hx hb d_De_placeOfE_45 ?_
      obtain ⟨b7, h⟩ := ok_g h
      refine alK_2 C0 hw b7 d_De_placeOfE_46 ?_
      refine lv_aload_n hx hb d_De_placeOfE_47 rfl (lv_at hl 1 rfl) ?_
      refine gfK_5_base C0 hw fl_De_116 d_De_placeOfE_48 ?_
      refine lv_iconst (v := (4 : Int32)) hx hb d_De_placeOfE_51 (by decide) ?_
      refine lv_icmp_ne (tgt := 59) hx hb d_De_placeOfE_52 (by decide) (fun c8 => ?_) (fun c8 => ?_)
      · have h := ok_f h c8
        refine lv_lconst (v := (0 : Int64)) hx hb d_De_placeOfE_59 (by decide) ?_
        exact w_De_placeOfE_60 o C0 q n1 (z_gM q 0 ((z_gI q 7) &&& (15 : Int32)).toNatClampNeg) (0 : Int64) h H locs ls hw (lv_sub hl [1] rfl)
      · have h := ok_t h c8
        refine lv_lload_n hx hb d_De_placeOfE_55 rfl (lv_at hl 2 rfl) ?_
        refine lv_goto (tgt := 60) hx hb d_De_placeOfE_56 (by decide) ?_
        exact w_De_placeOfE_60 o C0 q n1 (z_gM q 0 ((z_gI q 7) &&& (15 : Int32)).toNatClampNeg) x1 h H locs ls hw (lv_sub hl [1] rfl)
  · have h := ok_t h c2
    refine lv_lload_n hx hb d_De_placeOfE_14 rfl (lv_at hl 0 rfl) ?_
    refine lv_aload_n hx hb d_De_placeOfE_15 rfl (lv_at hl 1 rfl) ?_
    refine gfK_5_onward C0 hw fl_De_68 d_De_placeOfE_16 ?_
    refine lv_ladd hx hb d_De_placeOfE_19 ?_
    obtain ⟨n10, en10, h⟩ := ok_n h
    refine z_tl en10 ?_
    refine lv_lstore_n (lv' := [(3, .long n10), (0, .ref (ad 5)), (1, .long x1)]) hx hb d_De_placeOfE_20 rfl hl (by decide) rfl (fun ls hl => ?_)
    refine lv_goto (tgt := 63) hx hb d_De_placeOfE_21 (by decide) ?_
    exact w_De_placeOfE_63 o C0 q n10 h H locs ls hw (lv_sub hl [1, 0] rfl)
def k_De_hasStackBase_21 (t0 : Int32) (q : z_Sg) : Option Int32 :=
  z_gd (z_bo t0) (some t0)
def k_De_hasStackBase_16 (q : z_Sg) : Option Int32 :=
  k_De_hasStackBase_21 (1 : Int32) q
def f_De_hasStackBase (q : z_Sg) : Option Int32 :=
  if (z_gI q 7) = (4 : Int32) then (k_De_hasStackBase_16 q) else (if (z_gI q 7) = (5 : Int32) then (k_De_hasStackBase_16 q) else (k_De_hasStackBase_21 (0 : Int32) q))
set_option maxHeartbeats 4000000 in
set_option maxRecDepth 100000 in
theorem w_De_hasStackBase_21 {p : Program} {l : Launch} {e : Env} {s : State} {m : MethodId} {args : Array Value} {below : List Frame} {meth : Method} {c : Code} {D : va_G} {A : Nat → Prop} {ad : Nat → Nat} {ca : Nat → ClassId} (o : Int32) (C0 : z_cx z_RDe b_De_hasStackBase 1 (some .boolean) D (z_Kt ca) A p s m args meth c) (q : z_Sg) (t0 : Int32) (h : k_De_hasStackBase_21 t0 q = some o) : ∀ (H : Heap) (locs : List Loc) (ls : Array Slot), z_wd D (z_K ad ca q) A s H locs → lv_has ls 1 [] → W p l e (z_rm 0 0) s m args below meth c H locs 0 0 (z_qi below D (z_Kt ca) (z_K ad ca q) A s args o) (F0 m 21 ls [.int t0]) := by
  obtain ⟨hx, hb, hr, hlk, hml, hown, hts, hK, hA⟩ := id C0
  intro H locs ls hw hl
  obtain ⟨b2, h⟩ := ok_G h
  have ho := Option.some.inj h
  subst ho
  exact z_rtz C0 hw (z_bo_n b2) d_De_hasStackBase_21
set_option maxHeartbeats 4000000 in
set_option maxRecDepth 100000 in
theorem w_De_hasStackBase_16 {p : Program} {l : Launch} {e : Env} {s : State} {m : MethodId} {args : Array Value} {below : List Frame} {meth : Method} {c : Code} {D : va_G} {A : Nat → Prop} {ad : Nat → Nat} {ca : Nat → ClassId} (o : Int32) (C0 : z_cx z_RDe b_De_hasStackBase 1 (some .boolean) D (z_Kt ca) A p s m args meth c) (q : z_Sg) (h : k_De_hasStackBase_16 q = some o) : ∀ (H : Heap) (locs : List Loc) (ls : Array Slot), z_wd D (z_K ad ca q) A s H locs → lv_has ls 1 [] → W p l e (z_rm 0 0) s m args below meth c H locs 0 0 (z_qi below D (z_Kt ca) (z_K ad ca q) A s args o) (F0 m 16 ls []) := by
  obtain ⟨hx, hb, hr, hlk, hml, hown, hts, hK, hA⟩ := id C0
  intro H locs ls hw hl
  refine lv_iconst (v := (1 : Int32)) hx hb d_De_hasStackBase_16 (by decide) ?_
  refine lv_goto (tgt := 21) hx hb d_De_hasStackBase_17 (by decide) ?_
  exact w_De_hasStackBase_21 o C0 q (1 : Int32) h H locs ls hw (lv_sub hl [] rfl)
set_option maxHeartbeats 4000000 in
set_option maxRecDepth 100000 in
theorem c_De_hasStackBase {l : Launch} {D : va_G} {ad : Nat → Nat} {ca : Nat → ClassId} (q : z_Sg) (o : Int32) (h : f_De_hasStackBase q = some o) : z_ci l y_De_hasStackBase b_De_hasStackBase 1 (some .boolean) 0 0 D (z_Kt ca) (z_K ad ca q) (z_K ad ca q) [.ref (ad 5)] o := by
  refine z_ci_of (own := z_RDe) (by decide) rfl ?_
  intro p e s m below meth c A C0 hw
  obtain ⟨hx, hb, hr, hlk, hml, hown, hts, hK, hA⟩ := id C0
  generalize hH : s.heap = H at hw ⊢
  generalize hlo : ([] : List Loc) = locs at hw ⊢
  refine z_entry (lv := [(0, .ref (ad 5))]) (Nat.le_of_ble_eq_true rfl) rfl (fun ls hl => ?_)
  unfold f_De_hasStackBase at h
  refine lv_aload_n hx hb d_De_hasStackBase_0 rfl (lv_at hl 0 rfl) ?_
  refine gfK_5_base C0 hw fl_De_116 d_De_hasStackBase_1 ?_
  refine lv_iconst (v := (4 : Int32)) hx hb d_De_hasStackBase_4 (by decide) ?_
  refine lv_icmp_eq (tgt := 16) hx hb d_De_hasStackBase_5 (by decide) (fun c1 => ?_) (fun c1 => ?_)
  · have h := ok_t h c1
    exact w_De_hasStackBase_16 o C0 q h H locs ls hw (lv_sub hl [] rfl)
  · have h := ok_f h c1
    refine lv_aload_n hx hb d_De_hasStackBase_8 rfl (lv_at hl 0 rfl) ?_
    refine gfK_5_base C0 hw fl_De_116 d_De_hasStackBase_9 ?_
    refine lv_iconst (v := (5 : Int32)) hx hb d_De_hasStackBase_12 (by decide) ?_
    refine lv_icmp_ne (tgt := 20) hx hb d_De_hasStackBase_13 (by decide) (fun c3 => ?_) (fun c3 => ?_)
    · have h := ok_f h c3
      refine lv_iconst (v := (0 : Int32)) hx hb d_De_hasStackBase_20 (by decide) ?_
      exact w_De_hasStackBase_21 o C0 q (0 : Int32) h H locs ls hw (lv_sub hl [] rfl)
    · have h := ok_t h c3
      exact w_De_hasStackBase_16 o C0 q h H locs ls hw (lv_sub hl [] rfl)
def k_Sp_find_7_128 (ih16 : Int64 × Int32 × Int32 × Int32 × z_Sg → Option (Int32 × z_Sg)) (x1 : Int64) (x4 : Int32) (x5 : Int32) (x6 : Int32) (q : z_Sg) : Option (Int32 × z_Sg) :=
  z_nm (x6 + (1 : Int32)) (fun n11 => ih16 (x1, x4, x5, n11, q))
def k_Sp_find_7_124 (t1 : Int64) (t2 : Int64) (t3 : Int32) (q : z_Sg) : Option (Int32 × z_Sg) :=
  (f_Pa_refusal t1 t2 t3 q).bind (fun r14 => some (r14.1, r14.2))
def k_Sp_find_7_69 (ih16 : Int64 × Int32 × Int32 × Int32 × z_Sg → Option (Int32 × z_Sg)) (x1 : Int64) (x4 : Int32) (x5 : Int32) (x6 : Int32) (x7 : Int64) (q : z_Sg) : Option (Int32 × z_Sg) :=
  (f_Pa_locate x7 x4 q).bind (fun r6 => if z_bad x6 8 then none else (z_nm (z_sM q 2 x6.toNatClampNeg r6) (fun q8 => if z_bad x6 8 then none else (if (0 : Int64) ≤ (z_gM q8 2 x6.toNatClampNeg) then (k_Sp_find_7_128 ih16 x1 x4 x5 x6 q8) else (if z_bad x6 8 then none else (if x5 = 0 then (k_Sp_find_7_124 x7 (z_gM q8 2 x6.toNatClampNeg) (13 : Int32) q8) else (k_Sp_find_7_124 x7 (z_gM q8 2 x6.toNatClampNeg) (12 : Int32) q8)))))))
def kb_Sp_find_7_16 (ih16 : Int64 × Int32 × Int32 × Int32 × z_Sg → Option (Int32 × z_Sg)) (x1 : Int64) (x4 : Int32) (x5 : Int32) (x6 : Int32) (q : z_Sg) : Option (Int32 × z_Sg) :=
  if (z_gI q 16) ≤ x6 then (some ((-1 : Int32), q)) else (z_nm ((x1 + (x6.toInt64))) (fun n4 => if x6 ≤ 0 then (k_Sp_find_7_69 ih16 x1 x4 x5 x6 n4 q) else (if (n4 &&& (4095 : Int64)) = (0 : Int64) then (k_Sp_find_7_69 ih16 x1 x4 x5 x6 n4 q) else (if z_bad (x6 - (1 : Int32)) 8 then none else (if z_bad x6 8 then none else (z_nm (z_sM q 2 x6.toNatClampNeg ((z_gM q 2 (x6 - (1 : Int32)).toNatClampNeg) + (1 : Int64))) (fun q18 => k_Sp_find_7_128 ih16 x1 x4 x5 x6 q18)))))))
def k_Sp_find_7_16 (x1 : Int64) (x4 : Int32) (x5 : Int32) (x6 : Int32) (q : z_Sg) : Option (Int32 × z_Sg) := z_lo (fun ih16 a => kb_Sp_find_7_16 ih16 a.1 a.2.1 a.2.2.1 a.2.2.2.1 a.2.2.2.2) 2000 (x1, x4, x5, x6, q)
def f_Sp_find_7 (x1 : Int64) (x3 : Int32) (x4 : Int32) (x5 : Int32) (q : z_Sg) : Option (Int32 × z_Sg) :=
  (f_Ma_min x3 (8 : Int32) q).bind (fun r1 => z_nm (z_sI q 16 r1) (fun q2 => k_Sp_find_7_16 x1 x4 x5 (0 : Int32) q2))
set_option maxHeartbeats 4000000 in
set_option maxRecDepth 100000 in
theorem w_Sp_find_7_128 {p : Program} {l : Launch} {e : Env} {s : State} {m : MethodId} {args : Array Value} {below : List Frame} {meth : Method} {c : Code} {D : va_G} {A : Nat → Prop} {ad : Nat → Nat} {ca : Nat → ClassId} (o : (Int32 × z_Sg)) (C0 : z_cx z_RSp b_Sp_find 9 (some .int) D (z_Kt ca) A p s m args meth c) (q : z_Sg) (ih16 : Int64 × Int32 × Int32 × Int32 × z_Sg → Option (Int32 × z_Sg)) (hi16 : ∀ a : Int64 × Int32 × Int32 × Int32 × z_Sg, ih16 a = some o → ∀ (H : Heap) (locs : List Loc) (ls : Array Slot), z_wd D (z_K ad ca a.2.2.2.2) A s H locs → lv_has ls 9 [(0, .ref (ad 7)), (1, .long a.1), (4, .int a.2.1), (5, .int a.2.2.1), (6, .int a.2.2.2.1)] → W p l e (z_rm 2 61) s m args below meth c H locs 0 0 (z_qi below D (z_Kt ca) (z_K ad ca o.2) A s args o.1) (F0 m 16 ls [])) (x1 : Int64) (x4 : Int32) (x5 : Int32) (x6 : Int32) (h : k_Sp_find_7_128 ih16 x1 x4 x5 x6 q = some o) : ∀ (H : Heap) (locs : List Loc) (ls : Array Slot), z_wd D (z_K ad ca q) A s H locs → lv_has ls 9 [(0, .ref (ad 7)), (1, .long x1), (4, .int x4), (5, .int x5), (6, .int x6)] → W p l e (z_rm 2 61) s m args below meth c H locs 0 0 (z_qi below D (z_Kt ca) (z_K ad ca o.2) A s args o.1) (F0 m 128 ls []) := by
  obtain ⟨hx, hb, hr, hlk, hml, hown, hts, hK, hA⟩ := id C0
  intro H locs ls hw hl
  obtain ⟨n11, en11, h⟩ := ok_n h
  refine lv_iinc (v := n11) (lv' := [(6, .int n11), (0, .ref (ad 7)), (1, .long x1), (4, .int x4), (5, .int x5)]) hx hb d_Sp_find_128 hl (k := 4) rfl (by rw [en11]; rfl) (by decide) rfl (fun ls hl => ?_)
  refine lv_goto (tgt := 16) hx hb d_Sp_find_131 (by decide) ?_
  exact hi16 (x1, x4, x5, n11, q) h H locs ls hw (lv_sub hl [1, 2, 3, 4, 0] rfl)
set_option maxHeartbeats 4000000 in
set_option maxRecDepth 100000 in
theorem w_Sp_find_7_124 {p : Program} {l : Launch} {e : Env} {s : State} {m : MethodId} {args : Array Value} {below : List Frame} {meth : Method} {c : Code} {D : va_G} {A : Nat → Prop} {ad : Nat → Nat} {ca : Nat → ClassId} (o : (Int32 × z_Sg)) (C0 : z_cx z_RSp b_Sp_find 9 (some .int) D (z_Kt ca) A p s m args meth c) (q : z_Sg) (t1 : Int64) (t2 : Int64) (t3 : Int32) (h : k_Sp_find_7_124 t1 t2 t3 q = some o) : ∀ (H : Heap) (locs : List Loc) (ls : Array Slot), z_wd D (z_K ad ca q) A s H locs → lv_has ls 9 [] → W p l e (z_rm 2 61) s m args below meth c H locs 0 0 (z_qi below D (z_Kt ca) (z_K ad ca o.2) A s args o.1) (F0 m 124 ls [.int t3, .long t2, .long t1, .ref (ad 3)]) := by
  obtain ⟨hx, hb, hr, hlk, hml, hown, hts, hK, hA⟩ := id C0
  intro H locs ls hw hl
  obtain ⟨r14, er14, h⟩ := ok_b h
  refine z_vi (rest := []) C0 hw (c_Pa_refusal t1 t2 t3 q r14 er14) mw_Pa_refusal ml_Sp_37 3 rfl ⟨Nat.le_of_ble_eq_true rfl, Nat.le_of_ble_eq_true rfl⟩ ⟨Nat.le_refl 0, Nat.le_refl 0⟩ rfl hl.1 rfl (Nat.le_of_ble_eq_true rfl) d_Sp_find_124 (fun H locs hw => ?_)
  have ho := Option.some.inj h
  subst ho
  exact z_rti C0 hw d_Sp_find_127
set_option maxHeartbeats 4000000 in
set_option maxRecDepth 100000 in
theorem w_Sp_find_7_69 {p : Program} {l : Launch} {e : Env} {s : State} {m : MethodId} {args : Array Value} {below : List Frame} {meth : Method} {c : Code} {D : va_G} {A : Nat → Prop} {ad : Nat → Nat} {ca : Nat → ClassId} (o : (Int32 × z_Sg)) (C0 : z_cx z_RSp b_Sp_find 9 (some .int) D (z_Kt ca) A p s m args meth c) (q : z_Sg) (ih16 : Int64 × Int32 × Int32 × Int32 × z_Sg → Option (Int32 × z_Sg)) (hi16 : ∀ a : Int64 × Int32 × Int32 × Int32 × z_Sg, ih16 a = some o → ∀ (H : Heap) (locs : List Loc) (ls : Array Slot), z_wd D (z_K ad ca a.2.2.2.2) A s H locs → lv_has ls 9 [(0, .ref (ad 7)), (1, .long a.1), (4, .int a.2.1), (5, .int a.2.2.1), (6, .int a.2.2.2.1)] → W p l e (z_rm 2 61) s m args below meth c H locs 0 0 (z_qi below D (z_Kt ca) (z_K ad ca o.2) A s args o.1) (F0 m 16 ls [])) (x1 : Int64) (x4 : Int32) (x5 : Int32) (x6 : Int32) (x7 : Int64) (h : k_Sp_find_7_69 ih16 x1 x4 x5 x6 x7 q = some o) : ∀ (H : Heap) (locs : List Loc) (ls : Array Slot), z_wd D (z_K ad ca q) A s H locs → lv_has ls 9 [(0, .ref (ad 7)), (1, .long x1), (4, .int x4), (5, .int x5), (6, .int x6), (7, .long x7)] → W p l e (z_rm 2 61) s m args below meth c H locs 0 0 (z_qi below D (z_Kt ca) (z_K ad ca o.2) A s args o.1) (F0 m 69 ls []) := by
  obtain ⟨hx, hb, hr, hlk, hml, hown, hts, hK, hA⟩ := id C0
  intro H locs ls hw hl
  refine lv_aload_n hx hb d_Sp_find_69 rfl (lv_at hl 0 rfl) ?_
  refine gfK_7_at C0 hw fl_Sp_9 d_Sp_find_70 ?_
  refine lv_iload hx hb d_Sp_find_73 (lv_at hl 4 rfl) ?_
  refine lv_aload_n hx hb d_Sp_find_75 rfl (lv_at hl 0 rfl) ?_
  refine gfK_7_pages C0 hw fl_Sp_15 d_Sp_find_76 ?_
  refine lv_lload hx hb d_Sp_find_79 (lv_at hl 5 rfl) ?_
  refine lv_iload hx hb d_Sp_find_81 (lv_at hl 2 rfl) ?_
  obtain ⟨r6, er6, h⟩ := ok_b h
  refine z_vl (rest := [.int x6, .ref (ad 8)]) C0 hw (c_Pa_locate x7 x4 q r6 er6) mw_Pa_locate ml_Sp_33 3 rfl ⟨Nat.le_of_ble_eq_true rfl, Nat.le_of_ble_eq_true rfl⟩ ⟨Nat.le_refl 0, Nat.le_refl 0⟩ rfl hl.1 rfl (Nat.le_of_ble_eq_true rfl) d_Sp_find_83 (fun H locs hw => ?_)
  obtain ⟨b7, h⟩ := ok_g h
  refine asK_8 C0 hw b7 d_Sp_find_86 (fun H locs hw => ?_)
  obtain ⟨q8, eq8, h⟩ := ok_n h
  rw [← eq8] at hw
  refine lv_aload_n hx hb d_Sp_find_87 rfl (lv_at hl 0 rfl) ?_
  refine gfK_7_at C0 hw fl_Sp_9 d_Sp_find_88 ?_
  refine lv_iload hx hb d_Sp_find_91 (lv_at hl 4 rfl) ?_
  obtain ⟨b9, h⟩ := ok_g h
  refine alK_8 C0 hw b9 d_Sp_find_93 ?_
  refine lv_lconst (v := (0 : Int64)) hx hb d_Sp_find_94 (by decide) ?_
  refine W.lcmp hx hb d_Sp_find_95 ?_
  refine lv_if_ge (tgt := 128) hx hb d_Sp_find_96 (by decide) (fun c10 => ?_) (fun c10 => ?_)
  · have h := ok_t h ((lg_cmp_ge _ _).mp c10)
    exact w_Sp_find_7_128 o C0 q8 ih16 hi16 x1 x4 x5 x6 h H locs ls hw (lv_sub hl [0, 1, 2, 3, 4] rfl)
  · have h := ok_f h (fun z => c10 ((lg_cmp_ge _ _).mpr z))
    refine lv_aload_n hx hb d_Sp_find_99 rfl (lv_at hl 0 rfl) ?_
    refine gfK_7_pages C0 hw fl_Sp_15 d_Sp_find_100 ?_
    refine lv_lload hx hb d_Sp_find_103 (lv_at hl 5 rfl) ?_
    refine lv_aload_n hx hb d_Sp_find_105 rfl (lv_at hl 0 rfl) ?_
    refine gfK_7_at C0 hw fl_Sp_9 d_Sp_find_106 ?_
    refine lv_iload hx hb d_Sp_find_109 (lv_at hl 4 rfl) ?_
    obtain ⟨b12, h⟩ := ok_g h
    refine alK_8 C0 hw b12 d_Sp_find_111 ?_
    refine lv_iload hx hb d_Sp_find_112 (lv_at hl 3 rfl) ?_
    refine lv_if_eq (tgt := 122) hx hb d_Sp_find_114 (by decide) (fun c13 => ?_) (fun c13 => ?_)
    · have h := ok_t h c13
      refine lv_bipush (v := (13 : Int32)) hx hb d_Sp_find_122 (by decide) ?_
      exact w_Sp_find_7_124 o C0 q8 x7 (z_gM q8 2 x6.toNatClampNeg) (13 : Int32) h H locs ls hw (lv_sub hl [] rfl)
    · have h := ok_f h c13
      refine lv_bipush (v := (12 : Int32)) hx hb d_Sp_find_117 (by decide) ?_
      refine lv_goto (tgt := 124) hx hb d_Sp_find_119 (by decide) ?_
      exact w_Sp_find_7_124 o C0 q8 x7 (z_gM q8 2 x6.toNatClampNeg) (12 : Int32) h H locs ls hw (lv_sub hl [] rfl)
set_option maxHeartbeats 4000000 in
set_option maxRecDepth 100000 in
theorem wb_Sp_find_7_16 {p : Program} {l : Launch} {e : Env} {s : State} {m : MethodId} {args : Array Value} {below : List Frame} {meth : Method} {c : Code} {D : va_G} {A : Nat → Prop} {ad : Nat → Nat} {ca : Nat → ClassId} (o : (Int32 × z_Sg)) (C0 : z_cx z_RSp b_Sp_find 9 (some .int) D (z_Kt ca) A p s m args meth c) (q : z_Sg) (ih16 : Int64 × Int32 × Int32 × Int32 × z_Sg → Option (Int32 × z_Sg)) (hi16 : ∀ a : Int64 × Int32 × Int32 × Int32 × z_Sg, ih16 a = some o → ∀ (H : Heap) (locs : List Loc) (ls : Array Slot), z_wd D (z_K ad ca a.2.2.2.2) A s H locs → lv_has ls 9 [(0, .ref (ad 7)), (1, .long a.1), (4, .int a.2.1), (5, .int a.2.2.1), (6, .int a.2.2.2.1)] → W p l e (z_rm 2 61) s m args below meth c H locs 0 0 (z_qi below D (z_Kt ca) (z_K ad ca o.2) A s args o.1) (F0 m 16 ls [])) (x1 : Int64) (x4 : Int32) (x5 : Int32) (x6 : Int32) (h : kb_Sp_find_7_16 ih16 x1 x4 x5 x6 q = some o) : ∀ (H : Heap) (locs : List Loc) (ls : Array Slot), z_wd D (z_K ad ca q) A s H locs → lv_has ls 9 [(0, .ref (ad 7)), (1, .long x1), (4, .int x4), (5, .int x5), (6, .int x6)] → W p l e (z_rm 2 61) s m args below meth c H locs 0 0 (z_qi below D (z_Kt ca) (z_K ad ca o.2) A s args o.1) (F0 m 16 ls []) := by
  obtain ⟨hx, hb, hr, hlk, hml, hown, hts, hK, hA⟩ := id C0
  intro H locs ls hw hl
  refine lv_iload hx hb d_Sp_find_16 (lv_at hl 4 rfl) ?_
  refine lv_aload_n hx hb d_Sp_find_18 rfl (lv_at hl 0 rfl) ?_
  refine gfK_7_length C0 hw fl_Sp_25 d_Sp_find_19 ?_
  refine lv_icmp_ge (tgt := 134) hx hb d_Sp_find_22 (by decide) (fun c3 => ?_) (fun c3 => ?_)
  · have h := ok_t h c3
    refine lv_iconst (v := (-1 : Int32)) hx hb d_Sp_find_134 (by decide) ?_
    have ho := Option.some.inj h
    subst ho
    exact z_rti C0 hw d_Sp_find_135
  · have h := ok_f h c3
    refine lv_lload_n hx hb d_Sp_find_25 rfl (lv_at hl 1 rfl) ?_
    refine lv_iload hx hb d_Sp_find_26 (lv_at hl 4 rfl) ?_
    refine lv_i2l hx hb d_Sp_find_28 rfl ?_
    refine lv_ladd hx hb d_Sp_find_29 ?_
    obtain ⟨n4, en4, h⟩ := ok_n h
    refine z_tl en4 ?_
    refine lv_lstore (lv' := [(7, .long n4), (0, .ref (ad 7)), (1, .long x1), (4, .int x4), (5, .int x5), (6, .int x6)]) hx hb d_Sp_find_30 hl (by decide) rfl (fun ls hl => ?_)
    refine lv_iload hx hb d_Sp_find_32 (lv_at hl 5 rfl) ?_
    refine lv_if_le (tgt := 69) hx hb d_Sp_find_34 (by decide) (fun c5 => ?_) (fun c5 => ?_)
    · have h := ok_t h c5
      exact w_Sp_find_7_69 o C0 q ih16 hi16 x1 x4 x5 x6 n4 h H locs ls hw (lv_sub hl [1, 2, 3, 4, 5, 0] rfl)
    · have h := ok_f h c5
      refine lv_lload hx hb d_Sp_find_37 (lv_at hl 0 rfl) ?_
      refine lv_ldc2 (own := z_RSp) hx hb hown (hts _ kl_Sp_31) d_Sp_find_39 ?_
      refine lv_land hx hb d_Sp_find_42 ?_
      refine lv_lconst (v := (0 : Int64)) hx hb d_Sp_find_43 (by decide) ?_
      refine W.lcmp hx hb d_Sp_find_44 ?_
      refine lv_if_eq (tgt := 69) hx hb d_Sp_find_45 (by decide) (fun c15 => ?_) (fun c15 => ?_)
      · have h := ok_t h ((lg_cmp_eq _ _).mp c15)
        exact w_Sp_find_7_69 o C0 q ih16 hi16 x1 x4 x5 x6 n4 h H locs ls hw (lv_sub hl [1, 2, 3, 4, 5, 0] rfl)
      · have h := ok_f h (fun z => c15 ((lg_cmp_eq _ _).mpr z))
        refine lv_aload_n hx hb d_Sp_find_48 rfl (lv_at hl 1 rfl) ?_
        refine gfK_7_at C0 hw fl_Sp_9 d_Sp_find_49 ?_
        refine lv_iload hx hb d_Sp_find_52 (lv_at hl 5 rfl) ?_
        refine lv_aload_n hx hb d_Sp_find_54 rfl (lv_at hl 1 rfl) ?_
        refine gfK_7_at C0 hw fl_Sp_9 d_Sp_find_55 ?_
        refine lv_iload hx hb d_Sp_find_58 (lv_at hl 5 rfl) ?_
        refine lv_iconst (v := (1 : Int32)) hx hb d_Sp_find_60 (by decide) ?_
        refine lv_isub hx hb d_Sp_find_61 ?_
        obtain ⟨b16, h⟩ := ok_g h
        refine alK_8 C0 hw b16 d_Sp_find_62 ?_
        refine lv_lconst (v := (1 : Int64)) hx hb d_Sp_find_63 (by decide) ?_
        refine lv_ladd hx hb d_Sp_find_64 ?_
        obtain ⟨b17, h⟩ := ok_g h
        refine asK_8 C0 hw b17 d_Sp_find_65 (fun H locs hw => ?_)
        obtain ⟨q18, eq18, h⟩ := ok_n h
        rw [← eq18] at hw
        refine lv_goto (tgt := 128) hx hb d_Sp_find_66 (by decide) ?_
        exact w_Sp_find_7_128 o C0 q18 ih16 hi16 x1 x4 x5 x6 h H locs ls hw (lv_sub hl [1, 2, 3, 4, 5] rfl)
theorem w_Sp_find_7_16 {p : Program} {l : Launch} {e : Env} {s : State} {m : MethodId} {args : Array Value} {below : List Frame} {meth : Method} {c : Code} {D : va_G} {A : Nat → Prop} {ad : Nat → Nat} {ca : Nat → ClassId} (o : (Int32 × z_Sg)) (C0 : z_cx z_RSp b_Sp_find 9 (some .int) D (z_Kt ca) A p s m args meth c) (q : z_Sg) (x1 : Int64) (x4 : Int32) (x5 : Int32) (x6 : Int32) (h : k_Sp_find_7_16 x1 x4 x5 x6 q = some o) : ∀ (H : Heap) (locs : List Loc) (ls : Array Slot), z_wd D (z_K ad ca q) A s H locs → lv_has ls 9 [(0, .ref (ad 7)), (1, .long x1), (4, .int x4), (5, .int x5), (6, .int x6)] → W p l e (z_rm 2 61) s m args below meth c H locs 0 0 (z_qi below D (z_Kt ca) (z_K ad ca o.2) A s args o.1) (F0 m 16 ls []) := by
  have key : ∀ (n : Nat) (a : Int64 × Int32 × Int32 × Int32 × z_Sg), z_lo (fun ih16 a => kb_Sp_find_7_16 ih16 a.1 a.2.1 a.2.2.1 a.2.2.2.1 a.2.2.2.2) n a = some o → ∀ (H : Heap) (locs : List Loc) (ls : Array Slot), z_wd D (z_K ad ca a.2.2.2.2) A s H locs → lv_has ls 9 [(0, .ref (ad 7)), (1, .long a.1), (4, .int a.2.1), (5, .int a.2.2.1), (6, .int a.2.2.2.1)] → W p l e (z_rm 2 61) s m args below meth c H locs 0 0 (z_qi below D (z_Kt ca) (z_K ad ca o.2) A s args o.1) (F0 m 16 ls []) := by
    intro n
    induction n with
    | zero => intro a h; cases h
    | succ n ih => exact fun a h => wb_Sp_find_7_16 o C0 a.2.2.2.2 (z_lo (fun ih16 a => kb_Sp_find_7_16 ih16 a.1 a.2.1 a.2.2.1 a.2.2.2.1 a.2.2.2.2) n) ih a.1 a.2.1 a.2.2.1 a.2.2.2.1 h
  exact key 2000 (x1, x4, x5, x6, q) h
set_option maxHeartbeats 4000000 in
set_option maxRecDepth 100000 in
theorem c_Sp_find_7 {l : Launch} {D : va_G} {ad : Nat → Nat} {ca : Nat → ClassId} (x1 : Int64) (x3 : Int32) (x4 : Int32) (x5 : Int32) (q : z_Sg) (o : (Int32 × z_Sg)) (h : f_Sp_find_7 x1 x3 x4 x5 q = some o) : z_ci l y_Sp_find b_Sp_find 9 (some .int) 2 61 D (z_Kt ca) (z_K ad ca q) (z_K ad ca o.2) [.ref (ad 7), .long x1, .int x3, .int x4, .int x5] o.1 := by
  refine z_ci_of (own := z_RSp) (by decide) rfl ?_
  intro p e s m below meth c A C0 hw
  obtain ⟨hx, hb, hr, hlk, hml, hown, hts, hK, hA⟩ := id C0
  generalize hH : s.heap = H at hw ⊢
  generalize hlo : ([] : List Loc) = locs at hw ⊢
  refine z_entry (lv := [(0, .ref (ad 7)), (1, .long x1), (3, .int x3), (4, .int x4), (5, .int x5)]) (Nat.le_of_ble_eq_true rfl) rfl (fun ls hl => ?_)
  unfold f_Sp_find_7 at h
  refine lv_aload_n hx hb d_Sp_find_0 rfl (lv_at hl 0 rfl) ?_
  refine lv_iload_n hx hb d_Sp_find_1 rfl (lv_at hl 2 rfl) ?_
  refine lv_aload_n hx hb d_Sp_find_2 rfl (lv_at hl 0 rfl) ?_
  refine gfK_7_at C0 hw fl_Sp_9 d_Sp_find_3 ?_
  refine va_alen hx hb hK hw.1 8 2 rfl rfl (v := (8 : Int32)) rfl d_Sp_find_6 ?_
  obtain ⟨r1, er1, h⟩ := ok_b h
  refine z_si (rest := [.ref (ad 7)]) C0 hw (c_Ma_min x3 (8 : Int32) q r1 er1) mw_Ma_min ml_Sp_19 ⟨Nat.le_of_ble_eq_true rfl, Nat.le_of_ble_eq_true rfl⟩ ⟨Nat.le_refl 0, Nat.le_refl 0⟩ rfl hl.1 rfl (Nat.le_of_ble_eq_true rfl) d_Sp_find_7 (fun H locs hw => ?_)
  refine pfK_7_length C0 hw fl_Sp_25 d_Sp_find_10 (fun H locs hw => ?_)
  obtain ⟨q2, eq2, h⟩ := ok_n h
  rw [← eq2] at hw
  refine lv_iconst (v := (0 : Int32)) hx hb d_Sp_find_13 (by decide) ?_
  refine lv_istore (lv' := [(6, .int (0 : Int32)), (0, .ref (ad 7)), (1, .long x1), (3, .int x3), (4, .int x4), (5, .int x5)]) hx hb d_Sp_find_14 hl (by decide) rfl (fun ls hl => ?_)
  exact w_Sp_find_7_16 o C0 q2 x1 x4 x5 (0 : Int32) h H locs ls hw (lv_sub hl [1, 2, 4, 5, 0] rfl)
def k_Op_isOnStack_54 (t0 : Int32) (q : z_Sg) : Option Int32 :=
  z_gd (z_bo t0) (some t0)
def k_Op_isOnStack_49 (q : z_Sg) : Option Int32 :=
  k_Op_isOnStack_54 (1 : Int32) q
def k_Op_isOnStack_53 (q : z_Sg) : Option Int32 :=
  k_Op_isOnStack_54 (0 : Int32) q
def f_Op_isOnStack (q : z_Sg) : Option Int32 :=
  if (z_gI q 11) = (143 : Int32) then (k_Op_isOnStack_49 q) else (if (z_gI q 11) = (255 : Int32) then (if (z_gI q 13) = (2 : Int32) then (k_Op_isOnStack_49 q) else (if (z_gI q 13) = (6 : Int32) then (k_Op_isOnStack_49 q) else (k_Op_isOnStack_53 q))) else (k_Op_isOnStack_53 q))
set_option maxHeartbeats 4000000 in
set_option maxRecDepth 100000 in
theorem w_Op_isOnStack_54 {p : Program} {l : Launch} {e : Env} {s : State} {m : MethodId} {args : Array Value} {below : List Frame} {meth : Method} {c : Code} {D : va_G} {A : Nat → Prop} {ad : Nat → Nat} {ca : Nat → ClassId} (o : Int32) (C0 : z_cx z_ROp b_Op_isOnStack 1 (some .boolean) D (z_Kt ca) A p s m args meth c) (q : z_Sg) (t0 : Int32) (h : k_Op_isOnStack_54 t0 q = some o) : ∀ (H : Heap) (locs : List Loc) (ls : Array Slot), z_wd D (z_K ad ca q) A s H locs → lv_has ls 1 [] → W p l e (z_rm 0 0) s m args below meth c H locs 0 0 (z_qi below D (z_Kt ca) (z_K ad ca q) A s args o) (F0 m 54 ls [.int t0]) := by
  obtain ⟨hx, hb, hr, hlk, hml, hown, hts, hK, hA⟩ := id C0
  intro H locs ls hw hl
  obtain ⟨b2, h⟩ := ok_G h
  have ho := Option.some.inj h
  subst ho
  exact z_rtz C0 hw (z_bo_n b2) d_Op_isOnStack_54
set_option maxHeartbeats 4000000 in
set_option maxRecDepth 100000 in
theorem w_Op_isOnStack_49 {p : Program} {l : Launch} {e : Env} {s : State} {m : MethodId} {args : Array Value} {below : List Frame} {meth : Method} {c : Code} {D : va_G} {A : Nat → Prop} {ad : Nat → Nat} {ca : Nat → ClassId} (o : Int32) (C0 : z_cx z_ROp b_Op_isOnStack 1 (some .boolean) D (z_Kt ca) A p s m args meth c) (q : z_Sg) (h : k_Op_isOnStack_49 q = some o) : ∀ (H : Heap) (locs : List Loc) (ls : Array Slot), z_wd D (z_K ad ca q) A s H locs → lv_has ls 1 [] → W p l e (z_rm 0 0) s m args below meth c H locs 0 0 (z_qi below D (z_Kt ca) (z_K ad ca q) A s args o) (F0 m 49 ls []) := by
  obtain ⟨hx, hb, hr, hlk, hml, hown, hts, hK, hA⟩ := id C0
  intro H locs ls hw hl
  refine lv_iconst (v := (1 : Int32)) hx hb d_Op_isOnStack_49 (by decide) ?_
  refine lv_goto (tgt := 54) hx hb d_Op_isOnStack_50 (by decide) ?_
  exact w_Op_isOnStack_54 o C0 q (1 : Int32) h H locs ls hw (lv_sub hl [] rfl)
set_option maxHeartbeats 4000000 in
set_option maxRecDepth 100000 in
theorem w_Op_isOnStack_53 {p : Program} {l : Launch} {e : Env} {s : State} {m : MethodId} {args : Array Value} {below : List Frame} {meth : Method} {c : Code} {D : va_G} {A : Nat → Prop} {ad : Nat → Nat} {ca : Nat → ClassId} (o : Int32) (C0 : z_cx z_ROp b_Op_isOnStack 1 (some .boolean) D (z_Kt ca) A p s m args meth c) (q : z_Sg) (h : k_Op_isOnStack_53 q = some o) : ∀ (H : Heap) (locs : List Loc) (ls : Array Slot), z_wd D (z_K ad ca q) A s H locs → lv_has ls 1 [] → W p l e (z_rm 0 0) s m args below meth c H locs 0 0 (z_qi below D (z_Kt ca) (z_K ad ca q) A s args o) (F0 m 53 ls []) := by
  obtain ⟨hx, hb, hr, hlk, hml, hown, hts, hK, hA⟩ := id C0
  intro H locs ls hw hl
  refine lv_iconst (v := (0 : Int32)) hx hb d_Op_isOnStack_53 (by decide) ?_
  exact w_Op_isOnStack_54 o C0 q (0 : Int32) h H locs ls hw (lv_sub hl [] rfl)
set_option maxHeartbeats 4000000 in
set_option maxRecDepth 100000 in
theorem c_Op_isOnStack {l : Launch} {D : va_G} {ad : Nat → Nat} {ca : Nat → ClassId} (q : z_Sg) (o : Int32) (h : f_Op_isOnStack q = some o) : z_ci l y_Op_isOnStack b_Op_isOnStack 1 (some .boolean) 0 0 D (z_Kt ca) (z_K ad ca q) (z_K ad ca q) [.ref (ad 6)] o := by
  refine z_ci_of (own := z_ROp) (by decide) rfl ?_
  intro p e s m below meth c A C0 hw
  obtain ⟨hx, hb, hr, hlk, hml, hown, hts, hK, hA⟩ := id C0
  generalize hH : s.heap = H at hw ⊢
  generalize hlo : ([] : List Loc) = locs at hw ⊢
  refine z_entry (lv := [(0, .ref (ad 6))]) (Nat.le_of_ble_eq_true rfl) rfl (fun ls hl => ?_)
  unfold f_Op_isOnStack at h
  refine lv_aload_n hx hb d_Op_isOnStack_0 rfl (lv_at hl 0 rfl) ?_
  refine gfK_6_code C0 hw fl_Op_15 d_Op_isOnStack_1 ?_
  refine gfK_5_opcode C0 hw fl_Op_36 d_Op_isOnStack_4 ?_
  refine lv_sipush (v := (143 : Int32)) hx hb d_Op_isOnStack_7 (by decide) ?_
  refine lv_icmp_eq (tgt := 49) hx hb d_Op_isOnStack_10 (by decide) (fun c1 => ?_) (fun c1 => ?_)
  · have h := ok_t h c1
    exact w_Op_isOnStack_49 o C0 q h H locs ls hw (lv_sub hl [] rfl)
  · have h := ok_f h c1
    refine lv_aload_n hx hb d_Op_isOnStack_13 rfl (lv_at hl 0 rfl) ?_
    refine gfK_6_code C0 hw fl_Op_15 d_Op_isOnStack_14 ?_
    refine gfK_5_opcode C0 hw fl_Op_36 d_Op_isOnStack_17 ?_
    refine lv_sipush (v := (255 : Int32)) hx hb d_Op_isOnStack_20 (by decide) ?_
    refine lv_icmp_ne (tgt := 53) hx hb d_Op_isOnStack_23 (by decide) (fun c3 => ?_) (fun c3 => ?_)
    · have h := ok_f h c3
      exact w_Op_isOnStack_53 o C0 q h H locs ls hw (lv_sub hl [] rfl)
    · have h := ok_t h c3
      refine lv_aload_n hx hb d_Op_isOnStack_26 rfl (lv_at hl 0 rfl) ?_
      refine gfK_6_code C0 hw fl_Op_15 d_Op_isOnStack_27 ?_
      refine gfK_5_reg C0 hw fl_Op_79 d_Op_isOnStack_30 ?_
      refine lv_iconst (v := (2 : Int32)) hx hb d_Op_isOnStack_33 (by decide) ?_
      refine lv_icmp_eq (tgt := 49) hx hb d_Op_isOnStack_34 (by decide) (fun c4 => ?_) (fun c4 => ?_)
      · have h := ok_t h c4
        exact w_Op_isOnStack_49 o C0 q h H locs ls hw (lv_sub hl [] rfl)
      · have h := ok_f h c4
        refine lv_aload_n hx hb d_Op_isOnStack_37 rfl (lv_at hl 0 rfl) ?_
        refine gfK_6_code C0 hw fl_Op_15 d_Op_isOnStack_38 ?_
        refine gfK_5_reg C0 hw fl_Op_79 d_Op_isOnStack_41 ?_
        refine lv_bipush (v := (6 : Int32)) hx hb d_Op_isOnStack_44 (by decide) ?_
        refine lv_icmp_ne (tgt := 53) hx hb d_Op_isOnStack_46 (by decide) (fun c5 => ?_) (fun c5 => ?_)
        · have h := ok_f h c5
          exact w_Op_isOnStack_53 o C0 q h H locs ls hw (lv_sub hl [] rfl)
        · have h := ok_t h c5
          exact w_Op_isOnStack_49 o C0 q h H locs ls hw (lv_sub hl [] rfl)
def k_Op_openAt_40 (t1 : Int64) (t2 : Int32) (t3 : Int32) (t4 : Int32) (q : z_Sg) : Option (Int32 × z_Sg) :=
  (f_Sp_find_7 t1 t2 t3 t4 q).bind (fun r4 => some (r4.1, r4.2))
def k_Op_openAt_35 (t1 : Int64) (t2 : Int32) (t3 : Int32) (q : z_Sg) : Option (Int32 × z_Sg) :=
  k_Op_openAt_40 t1 t2 t3 (1 : Int32) q
def k_Op_openAt_18 (t1 : Int64) (t2 : Int32) (t3 : Int32) (q : z_Sg) : Option (Int32 × z_Sg) :=
  (f_De_hasStackBase q).bind (fun r2 => if r2 = 0 then ((f_Op_isOnStack q).bind (fun r5 => if r5 = 0 then (k_Op_openAt_40 t1 t2 t3 (0 : Int32) q) else (k_Op_openAt_35 t1 t2 t3 q))) else (k_Op_openAt_35 t1 t2 t3 q))
def f_Op_openAt (x1 : Int64) (x3 : Int32) (q : z_Sg) : Option (Int32 × z_Sg) :=
  if x3 = 0 then (k_Op_openAt_18 x1 (z_gI q 15) (0 : Int32) q) else (k_Op_openAt_18 x1 (z_gI q 15) (1 : Int32) q)
set_option maxHeartbeats 4000000 in
set_option maxRecDepth 100000 in
theorem w_Op_openAt_40 {p : Program} {l : Launch} {e : Env} {s : State} {m : MethodId} {args : Array Value} {below : List Frame} {meth : Method} {c : Code} {D : va_G} {A : Nat → Prop} {ad : Nat → Nat} {ca : Nat → ClassId} (o : (Int32 × z_Sg)) (C0 : z_cx z_ROp b_Op_openAt 4 (some .int) D (z_Kt ca) A p s m args meth c) (q : z_Sg) (t1 : Int64) (t2 : Int32) (t3 : Int32) (t4 : Int32) (h : k_Op_openAt_40 t1 t2 t3 t4 q = some o) : ∀ (H : Heap) (locs : List Loc) (ls : Array Slot), z_wd D (z_K ad ca q) A s H locs → lv_has ls 4 [] → W p l e (z_rm 3 89) s m args below meth c H locs 0 0 (z_qi below D (z_Kt ca) (z_K ad ca o.2) A s args o.1) (F0 m 40 ls [.int t4, .int t3, .int t2, .long t1, .ref (ad 7)]) := by
  obtain ⟨hx, hb, hr, hlk, hml, hown, hts, hK, hA⟩ := id C0
  intro H locs ls hw hl
  obtain ⟨r4, er4, h⟩ := ok_b h
  refine z_vi (rest := []) C0 hw (c_Sp_find_7 t1 t2 t3 t4 q r4 er4) mw_Sp_find ml_Op_61 7 rfl ⟨Nat.le_of_ble_eq_true rfl, Nat.le_of_ble_eq_true rfl⟩ ⟨Nat.le_refl 0, Nat.le_refl 0⟩ rfl hl.1 rfl (Nat.le_of_ble_eq_true rfl) d_Op_openAt_40 (fun H locs hw => ?_)
  have ho := Option.some.inj h
  subst ho
  exact z_rti C0 hw d_Op_openAt_43
set_option maxHeartbeats 4000000 in
set_option maxRecDepth 100000 in
theorem w_Op_openAt_35 {p : Program} {l : Launch} {e : Env} {s : State} {m : MethodId} {args : Array Value} {below : List Frame} {meth : Method} {c : Code} {D : va_G} {A : Nat → Prop} {ad : Nat → Nat} {ca : Nat → ClassId} (o : (Int32 × z_Sg)) (C0 : z_cx z_ROp b_Op_openAt 4 (some .int) D (z_Kt ca) A p s m args meth c) (q : z_Sg) (t1 : Int64) (t2 : Int32) (t3 : Int32) (h : k_Op_openAt_35 t1 t2 t3 q = some o) : ∀ (H : Heap) (locs : List Loc) (ls : Array Slot), z_wd D (z_K ad ca q) A s H locs → lv_has ls 4 [] → W p l e (z_rm 3 89) s m args below meth c H locs 0 0 (z_qi below D (z_Kt ca) (z_K ad ca o.2) A s args o.1) (F0 m 35 ls [.int t3, .int t2, .long t1, .ref (ad 7)]) := by
  obtain ⟨hx, hb, hr, hlk, hml, hown, hts, hK, hA⟩ := id C0
  intro H locs ls hw hl
  refine lv_iconst (v := (1 : Int32)) hx hb d_Op_openAt_35 (by decide) ?_
  refine lv_goto (tgt := 40) hx hb d_Op_openAt_36 (by decide) ?_
  exact w_Op_openAt_40 o C0 q t1 t2 t3 (1 : Int32) h H locs ls hw (lv_sub hl [] rfl)
set_option maxHeartbeats 4000000 in
set_option maxRecDepth 100000 in
theorem w_Op_openAt_18 {p : Program} {l : Launch} {e : Env} {s : State} {m : MethodId} {args : Array Value} {below : List Frame} {meth : Method} {c : Code} {D : va_G} {A : Nat → Prop} {ad : Nat → Nat} {ca : Nat → ClassId} (o : (Int32 × z_Sg)) (C0 : z_cx z_ROp b_Op_openAt 4 (some .int) D (z_Kt ca) A p s m args meth c) (q : z_Sg) (t1 : Int64) (t2 : Int32) (t3 : Int32) (h : k_Op_openAt_18 t1 t2 t3 q = some o) : ∀ (H : Heap) (locs : List Loc) (ls : Array Slot), z_wd D (z_K ad ca q) A s H locs → lv_has ls 4 [(0, .ref (ad 6))] → W p l e (z_rm 3 89) s m args below meth c H locs 0 0 (z_qi below D (z_Kt ca) (z_K ad ca o.2) A s args o.1) (F0 m 18 ls [.int t3, .int t2, .long t1, .ref (ad 7)]) := by
  obtain ⟨hx, hb, hr, hlk, hml, hown, hts, hK, hA⟩ := id C0
  intro H locs ls hw hl
  refine lv_aload_n hx hb d_Op_openAt_18 rfl (lv_at hl 0 rfl) ?_
  refine gfK_6_code C0 hw fl_Op_15 d_Op_openAt_19 ?_
  obtain ⟨r2, er2, h⟩ := ok_b h
  refine z_vi (rest := [.int t3, .int t2, .long t1, .ref (ad 7)]) C0 hw (c_De_hasStackBase q r2 er2) mw_De_hasStackBase ml_Op_55 5 rfl ⟨Nat.le_of_ble_eq_true rfl, Nat.le_of_ble_eq_true rfl⟩ ⟨Nat.le_refl 0, Nat.le_refl 0⟩ rfl hl.1 rfl (Nat.le_of_ble_eq_true rfl) d_Op_openAt_22 (fun H locs hw => ?_)
  refine lv_if_ne (tgt := 35) hx hb d_Op_openAt_25 (by decide) (fun c3 => ?_) (fun c3 => ?_)
  · have h := ok_f h c3
    exact w_Op_openAt_35 o C0 q t1 t2 t3 h H locs ls hw (lv_sub hl [] rfl)
  · have h := ok_t h c3
    refine lv_aload_n hx hb d_Op_openAt_28 rfl (lv_at hl 0 rfl) ?_
    obtain ⟨r5, er5, h⟩ := ok_b h
    refine z_vi (rest := [.int t3, .int t2, .long t1, .ref (ad 7)]) C0 hw (c_Op_isOnStack q r5 er5) mw_Op_isOnStack ml_Op_58 6 rfl ⟨Nat.le_of_ble_eq_true rfl, Nat.le_of_ble_eq_true rfl⟩ ⟨Nat.le_refl 0, Nat.le_refl 0⟩ rfl hl.1 rfl (Nat.le_of_ble_eq_true rfl) d_Op_openAt_29 (fun H locs hw => ?_)
    refine lv_if_eq (tgt := 39) hx hb d_Op_openAt_32 (by decide) (fun c6 => ?_) (fun c6 => ?_)
    · have h := ok_t h c6
      refine lv_iconst (v := (0 : Int32)) hx hb d_Op_openAt_39 (by decide) ?_
      exact w_Op_openAt_40 o C0 q t1 t2 t3 (0 : Int32) h H locs ls hw (lv_sub hl [] rfl)
    · have h := ok_f h c6
      exact w_Op_openAt_35 o C0 q t1 t2 t3 h H locs ls hw (lv_sub hl [] rfl)
set_option maxHeartbeats 4000000 in
set_option maxRecDepth 100000 in
theorem c_Op_openAt {l : Launch} {D : va_G} {ad : Nat → Nat} {ca : Nat → ClassId} (x1 : Int64) (x3 : Int32) (q : z_Sg) (o : (Int32 × z_Sg)) (h : f_Op_openAt x1 x3 q = some o) : z_ci l y_Op_openAt b_Op_openAt 4 (some .int) 3 89 D (z_Kt ca) (z_K ad ca q) (z_K ad ca o.2) [.ref (ad 6), .long x1, .int x3] o.1 := by
  refine z_ci_of (own := z_ROp) (by decide) rfl ?_
  intro p e s m below meth c A C0 hw
  obtain ⟨hx, hb, hr, hlk, hml, hown, hts, hK, hA⟩ := id C0
  generalize hH : s.heap = H at hw ⊢
  generalize hlo : ([] : List Loc) = locs at hw ⊢
  refine z_entry (lv := [(0, .ref (ad 6)), (1, .long x1), (3, .int x3)]) (Nat.le_of_ble_eq_true rfl) rfl (fun ls hl => ?_)
  unfold f_Op_openAt at h
  refine lv_aload_n hx hb d_Op_openAt_0 rfl (lv_at hl 0 rfl) ?_
  refine gfK_6_span C0 hw fl_Op_19 d_Op_openAt_1 ?_
  refine lv_lload_n hx hb d_Op_openAt_4 rfl (lv_at hl 1 rfl) ?_
  refine lv_aload_n hx hb d_Op_openAt_5 rfl (lv_at hl 0 rfl) ?_
  refine gfK_6_bytes C0 hw fl_Op_27 d_Op_openAt_6 ?_
  refine lv_iload_n hx hb d_Op_openAt_9 rfl (lv_at hl 2 rfl) ?_
  refine lv_if_eq (tgt := 17) hx hb d_Op_openAt_10 (by decide) (fun c1 => ?_) (fun c1 => ?_)
  · have h := ok_t h c1
    refine lv_iconst (v := (0 : Int32)) hx hb d_Op_openAt_17 (by decide) ?_
    exact w_Op_openAt_18 o C0 q x1 (z_gI q 15) (0 : Int32) h H locs ls hw (lv_sub hl [0] rfl)
  · have h := ok_f h c1
    refine lv_iconst (v := (1 : Int32)) hx hb d_Op_openAt_13 (by decide) ?_
    refine lv_goto (tgt := 18) hx hb d_Op_openAt_14 (by decide) ?_
    exact w_Op_openAt_18 o C0 q x1 (z_gI q 15) (1 : Int32) h H locs ls hw (lv_sub hl [0] rfl)
def k_Fl_popMemory_70 (x2 : Int32) (q : z_Sg) : Option (Int32 × z_Sg) :=
  some (x2, q)
def k_Fl_popMemory_37 (x1 : Int32) (x2 : Int32) (q : z_Sg) : Option (Int32 × z_Sg) :=
  if x2 = (-1 : Int32) then ((f_Sp_value_12 q).bind (fun r5 => (f_Op_put r5 q).bind (fun r6 => if z_bad (4 : Int32) 16 then none else (if z_bad (4 : Int32) 16 then none else (z_nm (z_sM r6 0 (4 : Int32).toNatClampNeg ((z_gM r6 0 (4 : Int32).toNatClampNeg) + (x1.toInt64))) (fun q9 => k_Fl_popMemory_70 x2 q9)))))) else (k_Fl_popMemory_70 x2 q)
def f_Fl_popMemory (q : z_Sg) : Option (Int32 × z_Sg) :=
  (f_De_sizeOnStack q).bind (fun r1 => (f_Fl_findTop r1 q).bind (fun r2 => if r2.1 = (-1 : Int32) then ((f_De_placeOfE (r1.toInt64) r2.2).bind (fun r10 => (f_Op_openAt r10 (1 : Int32) r2.2).bind (fun r11 => k_Fl_popMemory_37 r1 r11.1 r11.2))) else (k_Fl_popMemory_37 r1 r2.1 r2.2)))
set_option maxHeartbeats 4000000 in
set_option maxRecDepth 100000 in
theorem w_Fl_popMemory_70 {p : Program} {l : Launch} {e : Env} {s : State} {m : MethodId} {args : Array Value} {below : List Frame} {meth : Method} {c : Code} {D : va_G} {A : Nat → Prop} {ad : Nat → Nat} {ca : Nat → ClassId} (o : (Int32 × z_Sg)) (C0 : z_cx z_RFl b_Fl_popMemory 3 (some .int) D (z_Kt ca) A p s m args meth c) (q : z_Sg) (x2 : Int32) (h : k_Fl_popMemory_70 x2 q = some o) : ∀ (H : Heap) (locs : List Loc) (ls : Array Slot), z_wd D (z_K ad ca q) A s H locs → lv_has ls 3 [(2, .int x2)] → W p l e (z_rm 4 112) s m args below meth c H locs 0 0 (z_qi below D (z_Kt ca) (z_K ad ca o.2) A s args o.1) (F0 m 70 ls []) := by
  obtain ⟨hx, hb, hr, hlk, hml, hown, hts, hK, hA⟩ := id C0
  intro H locs ls hw hl
  refine lv_iload_n hx hb d_Fl_popMemory_70 rfl (lv_at hl 0 rfl) ?_
  have ho := Option.some.inj h
  subst ho
  exact z_rti C0 hw d_Fl_popMemory_71
set_option maxHeartbeats 4000000 in
set_option maxRecDepth 100000 in
theorem w_Fl_popMemory_37 {p : Program} {l : Launch} {e : Env} {s : State} {m : MethodId} {args : Array Value} {below : List Frame} {meth : Method} {c : Code} {D : va_G} {A : Nat → Prop} {ad : Nat → Nat} {ca : Nat → ClassId} (o : (Int32 × z_Sg)) (C0 : z_cx z_RFl b_Fl_popMemory 3 (some .int) D (z_Kt ca) A p s m args meth c) (q : z_Sg) (x1 : Int32) (x2 : Int32) (h : k_Fl_popMemory_37 x1 x2 q = some o) : ∀ (H : Heap) (locs : List Loc) (ls : Array Slot), z_wd D (z_K ad ca q) A s H locs → lv_has ls 3 [(0, .ref (ad 11)), (1, .int x1), (2, .int x2)] → W p l e (z_rm 4 112) s m args below meth c H locs 0 0 (z_qi below D (z_Kt ca) (z_K ad ca o.2) A s args o.1) (F0 m 37 ls []) := by
  obtain ⟨hx, hb, hr, hlk, hml, hown, hts, hK, hA⟩ := id C0
  intro H locs ls hw hl
  refine lv_iload_n hx hb d_Fl_popMemory_37 rfl (lv_at hl 2 rfl) ?_
  refine lv_iconst (v := (-1 : Int32)) hx hb d_Fl_popMemory_38 (by decide) ?_
  refine lv_icmp_ne (tgt := 70) hx hb d_Fl_popMemory_39 (by decide) (fun c4 => ?_) (fun c4 => ?_)
  · have h := ok_f h c4
    exact w_Fl_popMemory_70 o C0 q x2 h H locs ls hw (lv_sub hl [2] rfl)
  · have h := ok_t h c4
    refine lv_aload_n hx hb d_Fl_popMemory_42 rfl (lv_at hl 0 rfl) ?_
    refine gfK_11_operands C0 hw fl_Fl_19 d_Fl_popMemory_43 ?_
    refine lv_aload_n hx hb d_Fl_popMemory_46 rfl (lv_at hl 0 rfl) ?_
    refine gfK_11_top C0 hw fl_Fl_27 d_Fl_popMemory_47 ?_
    obtain ⟨r5, er5, h⟩ := ok_b h
    refine z_vl (rest := [.ref (ad 6)]) C0 hw (c_Sp_value_12 q r5 er5) mw_Sp_value ml_Fl_140 12 rfl ⟨Nat.le_of_ble_eq_true rfl, Nat.le_of_ble_eq_true rfl⟩ ⟨Nat.le_refl 0, Nat.le_refl 0⟩ rfl hl.1 rfl (Nat.le_of_ble_eq_true rfl) d_Fl_popMemory_50 (fun H locs hw => ?_)
    obtain ⟨r6, er6, h⟩ := ok_b h
    refine z_vv (rest := []) C0 hw (c_Op_put r5 q r6 er6) mw_Op_put ml_Fl_153 6 rfl ⟨Nat.le_of_ble_eq_true rfl, Nat.le_of_ble_eq_true rfl⟩ ⟨Nat.le_refl 0, Nat.le_refl 0⟩ rfl hl.1 rfl (Nat.le_of_ble_eq_true rfl) d_Fl_popMemory_53 (fun H locs hw => ?_)
    refine lv_aload_n hx hb d_Fl_popMemory_56 rfl (lv_at hl 0 rfl) ?_
    refine gfK_11_state C0 hw fl_Fl_9 d_Fl_popMemory_57 ?_
    refine gfK_1_registers C0 hw fl_Fl_101 d_Fl_popMemory_60 ?_
    refine lv_iconst (v := (4 : Int32)) hx hb d_Fl_popMemory_63 (by decide) ?_
    refine lv_dup2_11 hx hb d_Fl_popMemory_64 rfl rfl ?_
    obtain ⟨b7, h⟩ := ok_g h
    refine alK_2 C0 hw b7 d_Fl_popMemory_65 ?_
    refine lv_iload_n hx hb d_Fl_popMemory_66 rfl (lv_at hl 1 rfl) ?_
    refine lv_i2l hx hb d_Fl_popMemory_67 rfl ?_
    refine lv_ladd hx hb d_Fl_popMemory_68 ?_
    obtain ⟨b8, h⟩ := ok_g h
    refine asK_2 C0 hw b8 d_Fl_popMemory_69 (fun H locs hw => ?_)
    obtain ⟨q9, eq9, h⟩ := ok_n h
    rw [← eq9] at hw
    exact w_Fl_popMemory_70 o C0 q9 x2 h H locs ls hw (lv_sub hl [2] rfl)
set_option maxHeartbeats 4000000 in
set_option maxRecDepth 100000 in
theorem c_Fl_popMemory {l : Launch} {D : va_G} {ad : Nat → Nat} {ca : Nat → ClassId} (q : z_Sg) (o : (Int32 × z_Sg)) (h : f_Fl_popMemory q = some o) : z_ci l y_Fl_popMemory b_Fl_popMemory 3 (some .int) 4 112 D (z_Kt ca) (z_K ad ca q) (z_K ad ca o.2) [.ref (ad 11)] o.1 := by
  refine z_ci_of (own := z_RFl) (by decide) rfl ?_
  intro p e s m below meth c A C0 hw
  obtain ⟨hx, hb, hr, hlk, hml, hown, hts, hK, hA⟩ := id C0
  generalize hH : s.heap = H at hw ⊢
  generalize hlo : ([] : List Loc) = locs at hw ⊢
  refine z_entry (lv := [(0, .ref (ad 11))]) (Nat.le_of_ble_eq_true rfl) rfl (fun ls hl => ?_)
  unfold f_Fl_popMemory at h
  refine lv_aload_n hx hb d_Fl_popMemory_0 rfl (lv_at hl 0 rfl) ?_
  refine gfK_11_code C0 hw fl_Fl_15 d_Fl_popMemory_1 ?_
  obtain ⟨r1, er1, h⟩ := ok_b h
  refine z_vi (rest := []) C0 hw (c_De_sizeOnStack q r1 er1) mw_De_sizeOnStack ml_Fl_47 5 rfl ⟨Nat.le_of_ble_eq_true rfl, Nat.le_of_ble_eq_true rfl⟩ ⟨Nat.le_refl 0, Nat.le_refl 0⟩ rfl hl.1 rfl (Nat.le_of_ble_eq_true rfl) d_Fl_popMemory_4 (fun H locs hw => ?_)
  refine lv_istore_n (lv' := [(1, .int r1), (0, .ref (ad 11))]) hx hb d_Fl_popMemory_7 rfl hl (by decide) rfl (fun ls hl => ?_)
  refine lv_aload_n hx hb d_Fl_popMemory_8 rfl (lv_at hl 1 rfl) ?_
  refine lv_iload_n hx hb d_Fl_popMemory_9 rfl (lv_at hl 0 rfl) ?_
  obtain ⟨r2, er2, h⟩ := ok_b h
  refine z_vi (rest := []) C0 hw (c_Fl_findTop r1 q r2 er2) mw_Fl_findTop ml_Fl_137 11 rfl ⟨Nat.le_of_ble_eq_true rfl, Nat.le_of_ble_eq_true rfl⟩ ⟨Nat.le_refl 0, Nat.le_refl 0⟩ rfl hl.1 rfl (Nat.le_of_ble_eq_true rfl) d_Fl_popMemory_10 (fun H locs hw => ?_)
  refine lv_istore_n (lv' := [(2, .int r2.1), (1, .int r1), (0, .ref (ad 11))]) hx hb d_Fl_popMemory_13 rfl hl (by decide) rfl (fun ls hl => ?_)
  refine lv_iload_n hx hb d_Fl_popMemory_14 rfl (lv_at hl 0 rfl) ?_
  refine lv_iconst (v := (-1 : Int32)) hx hb d_Fl_popMemory_15 (by decide) ?_
  refine lv_icmp_ne (tgt := 37) hx hb d_Fl_popMemory_16 (by decide) (fun c3 => ?_) (fun c3 => ?_)
  · have h := ok_f h c3
    exact w_Fl_popMemory_37 o C0 r2.2 r1 r2.1 h H locs ls hw (lv_sub hl [2, 1, 0] rfl)
  · have h := ok_t h c3
    refine lv_aload_n hx hb d_Fl_popMemory_19 rfl (lv_at hl 2 rfl) ?_
    refine gfK_11_operands C0 hw fl_Fl_19 d_Fl_popMemory_20 ?_
    refine lv_aload_n hx hb d_Fl_popMemory_23 rfl (lv_at hl 2 rfl) ?_
    refine gfK_11_code C0 hw fl_Fl_15 d_Fl_popMemory_24 ?_
    refine lv_iload_n hx hb d_Fl_popMemory_27 rfl (lv_at hl 1 rfl) ?_
    refine lv_i2l hx hb d_Fl_popMemory_28 rfl ?_
    obtain ⟨r10, er10, h⟩ := ok_b h
    refine z_vl (rest := [.ref (ad 6)]) C0 hw (c_De_placeOfE (r1.toInt64) r2.2 r10 er10) mw_De_placeOfE ml_Fl_145 5 rfl ⟨Nat.le_of_ble_eq_true rfl, Nat.le_of_ble_eq_true rfl⟩ ⟨Nat.le_refl 0, Nat.le_refl 0⟩ rfl hl.1 rfl (Nat.le_of_ble_eq_true rfl) d_Fl_popMemory_29 (fun H locs hw => ?_)
    refine lv_iconst (v := (1 : Int32)) hx hb d_Fl_popMemory_32 (by decide) ?_
    obtain ⟨r11, er11, h⟩ := ok_b h
    refine z_vi (rest := []) C0 hw (c_Op_openAt r10 (1 : Int32) r2.2 r11 er11) mw_Op_openAt ml_Fl_149 6 rfl ⟨Nat.le_of_ble_eq_true rfl, Nat.le_of_ble_eq_true rfl⟩ ⟨Nat.le_refl 0, Nat.le_refl 0⟩ rfl hl.1 rfl (Nat.le_of_ble_eq_true rfl) d_Fl_popMemory_33 (fun H locs hw => ?_)
    refine lv_istore_n (lv' := [(2, .int r11.1), (1, .int r1), (0, .ref (ad 11))]) hx hb d_Fl_popMemory_36 rfl hl (by decide) rfl (fun ls hl => ?_)
    exact w_Fl_popMemory_37 o C0 r11.2 r1 r11.1 h H locs ls hw (lv_sub hl [2, 1, 0] rfl)
def k_Fl_popFlags_52 (x2 : Int32) (q : z_Sg) : Option (Int32 × z_Sg) :=
  some (x2, q)
def f_Fl_popFlags (q : z_Sg) : Option (Int32 × z_Sg) :=
  (f_De_sizeOnStack q).bind (fun r1 => (f_Fl_findTop r1 q).bind (fun r2 => if r2.1 = (-1 : Int32) then ((f_Sp_value_12 r2.2).bind (fun r4 => z_nm (z_sI r2.2 0 ((r4.toInt32) &&& (3285 : Int32))) (fun q5 => if z_bad (4 : Int32) 16 then none else (if z_bad (4 : Int32) 16 then none else (z_nm (z_sM q5 0 (4 : Int32).toNatClampNeg ((z_gM q5 0 (4 : Int32).toNatClampNeg) + (r1.toInt64))) (fun q8 => k_Fl_popFlags_52 r2.1 q8)))))) else (k_Fl_popFlags_52 r2.1 r2.2)))
set_option maxHeartbeats 4000000 in
set_option maxRecDepth 100000 in
theorem w_Fl_popFlags_52 {p : Program} {l : Launch} {e : Env} {s : State} {m : MethodId} {args : Array Value} {below : List Frame} {meth : Method} {c : Code} {D : va_G} {A : Nat → Prop} {ad : Nat → Nat} {ca : Nat → ClassId} (o : (Int32 × z_Sg)) (C0 : z_cx z_RFl b_Fl_popFlags 3 (some .int) D (z_Kt ca) A p s m args meth c) (q : z_Sg) (x2 : Int32) (h : k_Fl_popFlags_52 x2 q = some o) : ∀ (H : Heap) (locs : List Loc) (ls : Array Slot), z_wd D (z_K ad ca q) A s H locs → lv_has ls 3 [(2, .int x2)] → W p l e (z_rm 4 110) s m args below meth c H locs 0 0 (z_qi below D (z_Kt ca) (z_K ad ca o.2) A s args o.1) (F0 m 52 ls []) := by
  obtain ⟨hx, hb, hr, hlk, hml, hown, hts, hK, hA⟩ := id C0
  intro H locs ls hw hl
  refine lv_iload_n hx hb d_Fl_popFlags_52 rfl (lv_at hl 0 rfl) ?_
  have ho := Option.some.inj h
  subst ho
  exact z_rti C0 hw d_Fl_popFlags_53
set_option maxHeartbeats 4000000 in
set_option maxRecDepth 100000 in
theorem c_Fl_popFlags {l : Launch} {D : va_G} {ad : Nat → Nat} {ca : Nat → ClassId} (q : z_Sg) (o : (Int32 × z_Sg)) (h : f_Fl_popFlags q = some o) : z_ci l y_Fl_popFlags b_Fl_popFlags 3 (some .int) 4 110 D (z_Kt ca) (z_K ad ca q) (z_K ad ca o.2) [.ref (ad 11)] o.1 := by
  refine z_ci_of (own := z_RFl) (by decide) rfl ?_
  intro p e s m below meth c A C0 hw
  obtain ⟨hx, hb, hr, hlk, hml, hown, hts, hK, hA⟩ := id C0
  generalize hH : s.heap = H at hw ⊢
  generalize hlo : ([] : List Loc) = locs at hw ⊢
  refine z_entry (lv := [(0, .ref (ad 11))]) (Nat.le_of_ble_eq_true rfl) rfl (fun ls hl => ?_)
  unfold f_Fl_popFlags at h
  refine lv_aload_n hx hb d_Fl_popFlags_0 rfl (lv_at hl 0 rfl) ?_
  refine gfK_11_code C0 hw fl_Fl_15 d_Fl_popFlags_1 ?_
  obtain ⟨r1, er1, h⟩ := ok_b h
  refine z_vi (rest := []) C0 hw (c_De_sizeOnStack q r1 er1) mw_De_sizeOnStack ml_Fl_47 5 rfl ⟨Nat.le_of_ble_eq_true rfl, Nat.le_of_ble_eq_true rfl⟩ ⟨Nat.le_refl 0, Nat.le_refl 0⟩ rfl hl.1 rfl (Nat.le_of_ble_eq_true rfl) d_Fl_popFlags_4 (fun H locs hw => ?_)
  refine lv_istore_n (lv' := [(1, .int r1), (0, .ref (ad 11))]) hx hb d_Fl_popFlags_7 rfl hl (by decide) rfl (fun ls hl => ?_)
  refine lv_aload_n hx hb d_Fl_popFlags_8 rfl (lv_at hl 1 rfl) ?_
  refine lv_iload_n hx hb d_Fl_popFlags_9 rfl (lv_at hl 0 rfl) ?_
  obtain ⟨r2, er2, h⟩ := ok_b h
  refine z_vi (rest := []) C0 hw (c_Fl_findTop r1 q r2 er2) mw_Fl_findTop ml_Fl_137 11 rfl ⟨Nat.le_of_ble_eq_true rfl, Nat.le_of_ble_eq_true rfl⟩ ⟨Nat.le_refl 0, Nat.le_refl 0⟩ rfl hl.1 rfl (Nat.le_of_ble_eq_true rfl) d_Fl_popFlags_10 (fun H locs hw => ?_)
  refine lv_istore_n (lv' := [(2, .int r2.1), (1, .int r1), (0, .ref (ad 11))]) hx hb d_Fl_popFlags_13 rfl hl (by decide) rfl (fun ls hl => ?_)
  refine lv_iload_n hx hb d_Fl_popFlags_14 rfl (lv_at hl 0 rfl) ?_
  refine lv_iconst (v := (-1 : Int32)) hx hb d_Fl_popFlags_15 (by decide) ?_
  refine lv_icmp_ne (tgt := 52) hx hb d_Fl_popFlags_16 (by decide) (fun c3 => ?_) (fun c3 => ?_)
  · have h := ok_f h c3
    exact w_Fl_popFlags_52 o C0 r2.2 r2.1 h H locs ls hw (lv_sub hl [0] rfl)
  · have h := ok_t h c3
    refine lv_aload_n hx hb d_Fl_popFlags_19 rfl (lv_at hl 2 rfl) ?_
    refine gfK_11_state C0 hw fl_Fl_9 d_Fl_popFlags_20 ?_
    refine lv_aload_n hx hb d_Fl_popFlags_23 rfl (lv_at hl 2 rfl) ?_
    refine gfK_11_top C0 hw fl_Fl_27 d_Fl_popFlags_24 ?_
    obtain ⟨r4, er4, h⟩ := ok_b h
    refine z_vl (rest := [.ref (ad 1)]) C0 hw (c_Sp_value_12 r2.2 r4 er4) mw_Sp_value ml_Fl_140 12 rfl ⟨Nat.le_of_ble_eq_true rfl, Nat.le_of_ble_eq_true rfl⟩ ⟨Nat.le_refl 0, Nat.le_refl 0⟩ rfl hl.1 rfl (Nat.le_of_ble_eq_true rfl) d_Fl_popFlags_27 (fun H locs hw => ?_)
    refine lv_l2i hx hb d_Fl_popFlags_30 rfl ?_
    refine lv_sipush (v := (3285 : Int32)) hx hb d_Fl_popFlags_31 (by decide) ?_
    refine lv_iand hx hb d_Fl_popFlags_34 ?_
    refine pfK_1_flags C0 hw fl_Fl_84 d_Fl_popFlags_35 (fun H locs hw => ?_)
    obtain ⟨q5, eq5, h⟩ := ok_n h
    rw [← eq5] at hw
    refine lv_aload_n hx hb d_Fl_popFlags_38 rfl (lv_at hl 2 rfl) ?_
    refine gfK_11_state C0 hw fl_Fl_9 d_Fl_popFlags_39 ?_
    refine gfK_1_registers C0 hw fl_Fl_101 d_Fl_popFlags_42 ?_
    refine lv_iconst (v := (4 : Int32)) hx hb d_Fl_popFlags_45 (by decide) ?_
    refine lv_dup2_11 hx hb d_Fl_popFlags_46 rfl rfl ?_
    obtain ⟨b6, h⟩ := ok_g h
    refine alK_2 C0 hw b6 d_Fl_popFlags_47 ?_
    refine lv_iload_n hx hb d_Fl_popFlags_48 rfl (lv_at hl 1 rfl) ?_
    refine lv_i2l hx hb d_Fl_popFlags_49 rfl ?_
    refine lv_ladd hx hb d_Fl_popFlags_50 ?_
    obtain ⟨b7, h⟩ := ok_g h
    refine asK_2 C0 hw b7 d_Fl_popFlags_51 (fun H locs hw => ?_)
    obtain ⟨q8, eq8, h⟩ := ok_n h
    rw [← eq8] at hw
    exact w_Fl_popFlags_52 o C0 q8 r2.1 h H locs ls hw (lv_sub hl [0] rfl)
def k_Fl_comeBack_56 (x1 : Int32) (q : z_Sg) : Option (Int32 × z_Sg) :=
  some (x1, q)
def k_Fl_comeBack_24 (x1 : Int32) (q : z_Sg) : Option (Int32 × z_Sg) :=
  if x1 = (-1 : Int32) then (if z_bad (4 : Int32) 16 then none else (if z_bad (4 : Int32) 16 then none else (z_nm (z_sM q 0 (4 : Int32).toNatClampNeg ((z_gM q 0 (4 : Int32).toNatClampNeg) + ((8 : Int64) + ((z_gL q 9) &&& (65535 : Int64))))) (fun q6 => k_Fl_comeBack_56 x1 q6)))) else (k_Fl_comeBack_56 x1 q)
def f_Fl_comeBack (q : z_Sg) : Option (Int32 × z_Sg) :=
  (f_Fl_findTop (8 : Int32) q).bind (fun r1 => if r1.1 = (-1 : Int32) then ((f_Sp_value_12 r1.2).bind (fun r7 => (f_Fl_jump r7 r1.2).bind (fun r8 => k_Fl_comeBack_24 r8.1 r8.2))) else (k_Fl_comeBack_24 r1.1 r1.2))
set_option maxHeartbeats 4000000 in
set_option maxRecDepth 100000 in
theorem w_Fl_comeBack_56 {p : Program} {l : Launch} {e : Env} {s : State} {m : MethodId} {args : Array Value} {below : List Frame} {meth : Method} {c : Code} {D : va_G} {A : Nat → Prop} {ad : Nat → Nat} {ca : Nat → ClassId} (o : (Int32 × z_Sg)) (C0 : z_cx z_RFl b_Fl_comeBack 2 (some .int) D (z_Kt ca) A p s m args meth c) (q : z_Sg) (x1 : Int32) (h : k_Fl_comeBack_56 x1 q = some o) : ∀ (H : Heap) (locs : List Loc) (ls : Array Slot), z_wd D (z_K ad ca q) A s H locs → lv_has ls 2 [(1, .int x1)] → W p l e (z_rm 4 110) s m args below meth c H locs 0 0 (z_qi below D (z_Kt ca) (z_K ad ca o.2) A s args o.1) (F0 m 56 ls []) := by
  obtain ⟨hx, hb, hr, hlk, hml, hown, hts, hK, hA⟩ := id C0
  intro H locs ls hw hl
  refine lv_iload_n hx hb d_Fl_comeBack_56 rfl (lv_at hl 0 rfl) ?_
  have ho := Option.some.inj h
  subst ho
  exact z_rti C0 hw d_Fl_comeBack_57
set_option maxHeartbeats 4000000 in
set_option maxRecDepth 100000 in
theorem w_Fl_comeBack_24 {p : Program} {l : Launch} {e : Env} {s : State} {m : MethodId} {args : Array Value} {below : List Frame} {meth : Method} {c : Code} {D : va_G} {A : Nat → Prop} {ad : Nat → Nat} {ca : Nat → ClassId} (o : (Int32 × z_Sg)) (C0 : z_cx z_RFl b_Fl_comeBack 2 (some .int) D (z_Kt ca) A p s m args meth c) (q : z_Sg) (x1 : Int32) (h : k_Fl_comeBack_24 x1 q = some o) : ∀ (H : Heap) (locs : List Loc) (ls : Array Slot), z_wd D (z_K ad ca q) A s H locs → lv_has ls 2 [(0, .ref (ad 11)), (1, .int x1)] → W p l e (z_rm 4 110) s m args below meth c H locs 0 0 (z_qi below D (z_Kt ca) (z_K ad ca o.2) A s args o.1) (F0 m 24 ls []) := by
  obtain ⟨hx, hb, hr, hlk, hml, hown, hts, hK, hA⟩ := id C0
  intro H locs ls hw hl
  refine lv_iload_n hx hb d_Fl_comeBack_24 rfl (lv_at hl 1 rfl) ?_
  refine lv_iconst (v := (-1 : Int32)) hx hb d_Fl_comeBack_25 (by decide) ?_
  refine lv_icmp_ne (tgt := 56) hx hb d_Fl_comeBack_26 (by decide) (fun c3 => ?_) (fun c3 => ?_)
  · have h := ok_f h c3
    exact w_Fl_comeBack_56 o C0 q x1 h H locs ls hw (lv_sub hl [1] rfl)
  · have h := ok_t h c3
    refine lv_aload_n hx hb d_Fl_comeBack_29 rfl (lv_at hl 0 rfl) ?_
    refine gfK_11_state C0 hw fl_Fl_9 d_Fl_comeBack_30 ?_
    refine gfK_1_registers C0 hw fl_Fl_101 d_Fl_comeBack_33 ?_
    refine lv_iconst (v := (4 : Int32)) hx hb d_Fl_comeBack_36 (by decide) ?_
    refine lv_dup2_11 hx hb d_Fl_comeBack_37 rfl rfl ?_
    obtain ⟨b4, h⟩ := ok_g h
    refine alK_2 C0 hw b4 d_Fl_comeBack_38 ?_
    refine lv_ldc2 (own := z_RFl) hx hb hown (hts _ kl_Fl_154) d_Fl_comeBack_39 ?_
    refine lv_aload_n hx hb d_Fl_comeBack_42 rfl (lv_at hl 0 rfl) ?_
    refine gfK_11_code C0 hw fl_Fl_15 d_Fl_comeBack_43 ?_
    refine gfK_5_number C0 hw fl_Fl_68 d_Fl_comeBack_46 ?_
    refine lv_ldc2 (own := z_RFl) hx hb hown (hts _ kl_Fl_156) d_Fl_comeBack_49 ?_
    refine lv_land hx hb d_Fl_comeBack_52 ?_
    refine lv_ladd hx hb d_Fl_comeBack_53 ?_
    refine lv_ladd hx hb d_Fl_comeBack_54 ?_
    obtain ⟨b5, h⟩ := ok_g h
    refine asK_2 C0 hw b5 d_Fl_comeBack_55 (fun H locs hw => ?_)
    obtain ⟨q6, eq6, h⟩ := ok_n h
    rw [← eq6] at hw
    exact w_Fl_comeBack_56 o C0 q6 x1 h H locs ls hw (lv_sub hl [1] rfl)
set_option maxHeartbeats 4000000 in
set_option maxRecDepth 100000 in
theorem c_Fl_comeBack {l : Launch} {D : va_G} {ad : Nat → Nat} {ca : Nat → ClassId} (q : z_Sg) (o : (Int32 × z_Sg)) (h : f_Fl_comeBack q = some o) : z_ci l y_Fl_comeBack b_Fl_comeBack 2 (some .int) 4 110 D (z_Kt ca) (z_K ad ca q) (z_K ad ca o.2) [.ref (ad 11)] o.1 := by
  refine z_ci_of (own := z_RFl) (by decide) rfl ?_
  intro p e s m below meth c A C0 hw
  obtain ⟨hx, hb, hr, hlk, hml, hown, hts, hK, hA⟩ := id C0
  generalize hH : s.heap = H at hw ⊢
  generalize hlo : ([] : List Loc) = locs at hw ⊢
  refine z_entry (lv := [(0, .ref (ad 11))]) (Nat.le_of_ble_eq_true rfl) rfl (fun ls hl => ?_)
  unfold f_Fl_comeBack at h
  refine lv_aload_n hx hb d_Fl_comeBack_0 rfl (lv_at hl 0 rfl) ?_
  refine lv_bipush (v := (8 : Int32)) hx hb d_Fl_comeBack_1 (by decide) ?_
  obtain ⟨r1, er1, h⟩ := ok_b h
  refine z_vi (rest := []) C0 hw (c_Fl_findTop (8 : Int32) q r1 er1) mw_Fl_findTop ml_Fl_137 11 rfl ⟨Nat.le_of_ble_eq_true rfl, Nat.le_of_ble_eq_true rfl⟩ ⟨Nat.le_refl 0, Nat.le_refl 0⟩ rfl hl.1 rfl (Nat.le_of_ble_eq_true rfl) d_Fl_comeBack_3 (fun H locs hw => ?_)
  refine lv_istore_n (lv' := [(1, .int r1.1), (0, .ref (ad 11))]) hx hb d_Fl_comeBack_6 rfl hl (by decide) rfl (fun ls hl => ?_)
  refine lv_iload_n hx hb d_Fl_comeBack_7 rfl (lv_at hl 0 rfl) ?_
  refine lv_iconst (v := (-1 : Int32)) hx hb d_Fl_comeBack_8 (by decide) ?_
  refine lv_icmp_ne (tgt := 24) hx hb d_Fl_comeBack_9 (by decide) (fun c2 => ?_) (fun c2 => ?_)
  · have h := ok_f h c2
    exact w_Fl_comeBack_24 o C0 r1.2 r1.1 h H locs ls hw (lv_sub hl [1, 0] rfl)
  · have h := ok_t h c2
    refine lv_aload_n hx hb d_Fl_comeBack_12 rfl (lv_at hl 1 rfl) ?_
    refine lv_aload_n hx hb d_Fl_comeBack_13 rfl (lv_at hl 1 rfl) ?_
    refine gfK_11_top C0 hw fl_Fl_27 d_Fl_comeBack_14 ?_
    obtain ⟨r7, er7, h⟩ := ok_b h
    refine z_vl (rest := [.ref (ad 11)]) C0 hw (c_Sp_value_12 r1.2 r7 er7) mw_Sp_value ml_Fl_140 12 rfl ⟨Nat.le_of_ble_eq_true rfl, Nat.le_of_ble_eq_true rfl⟩ ⟨Nat.le_refl 0, Nat.le_refl 0⟩ rfl hl.1 rfl (Nat.le_of_ble_eq_true rfl) d_Fl_comeBack_17 (fun H locs hw => ?_)
    obtain ⟨r8, er8, h⟩ := ok_b h
    refine z_vi (rest := []) C0 hw (c_Fl_jump r7 r1.2 r8 er8) mw_Fl_jump ml_Fl_71 11 rfl ⟨Nat.le_of_ble_eq_true rfl, Nat.le_of_ble_eq_true rfl⟩ ⟨Nat.le_refl 0, Nat.le_refl 0⟩ rfl hl.1 rfl (Nat.le_of_ble_eq_true rfl) d_Fl_comeBack_20 (fun H locs hw => ?_)
    refine lv_istore_n (lv' := [(1, .int r8.1), (0, .ref (ad 11))]) hx hb d_Fl_comeBack_23 rfl hl (by decide) rfl (fun ls hl => ?_)
    exact w_Fl_comeBack_24 o C0 r8.2 r8.1 h H locs ls hw (lv_sub hl [1, 0] rfl)
def k_Fl_leave_58 (x3 : Int32) (q : z_Sg) : Option (Int32 × z_Sg) :=
  some (x3, q)
def f_Fl_leave (q : z_Sg) : Option (Int32 × z_Sg) :=
  if z_bad (5 : Int32) 16 then none else (z_nm ((z_gM q 0 (5 : Int32).toNatClampNeg)) (fun n2 => (f_Sp_find_12 n2 (8 : Int32) (0 : Int32) (1 : Int32) q).bind (fun r3 => if r3.1 = (-1 : Int32) then ((f_Sp_value_12 r3.2).bind (fun r5 => if z_bad (5 : Int32) 16 then none else (z_nm (z_sM r3.2 0 (5 : Int32).toNatClampNeg r5) (fun q7 => if z_bad (4 : Int32) 16 then none else (z_nm (z_sM q7 0 (4 : Int32).toNatClampNeg (n2 + (8 : Int64))) (fun q9 => k_Fl_leave_58 r3.1 q9)))))) else (k_Fl_leave_58 r3.1 r3.2))))
set_option maxHeartbeats 4000000 in
set_option maxRecDepth 100000 in
theorem w_Fl_leave_58 {p : Program} {l : Launch} {e : Env} {s : State} {m : MethodId} {args : Array Value} {below : List Frame} {meth : Method} {c : Code} {D : va_G} {A : Nat → Prop} {ad : Nat → Nat} {ca : Nat → ClassId} (o : (Int32 × z_Sg)) (C0 : z_cx z_RFl b_Fl_leave 4 (some .int) D (z_Kt ca) A p s m args meth c) (q : z_Sg) (x3 : Int32) (h : k_Fl_leave_58 x3 q = some o) : ∀ (H : Heap) (locs : List Loc) (ls : Array Slot), z_wd D (z_K ad ca q) A s H locs → lv_has ls 4 [(3, .int x3)] → W p l e (z_rm 3 89) s m args below meth c H locs 0 0 (z_qi below D (z_Kt ca) (z_K ad ca o.2) A s args o.1) (F0 m 58 ls []) := by
  obtain ⟨hx, hb, hr, hlk, hml, hown, hts, hK, hA⟩ := id C0
  intro H locs ls hw hl
  refine lv_iload_n hx hb d_Fl_leave_58 rfl (lv_at hl 0 rfl) ?_
  have ho := Option.some.inj h
  subst ho
  exact z_rti C0 hw d_Fl_leave_59
set_option maxHeartbeats 4000000 in
set_option maxRecDepth 100000 in
theorem c_Fl_leave {l : Launch} {D : va_G} {ad : Nat → Nat} {ca : Nat → ClassId} (q : z_Sg) (o : (Int32 × z_Sg)) (h : f_Fl_leave q = some o) : z_ci l y_Fl_leave b_Fl_leave 4 (some .int) 3 89 D (z_Kt ca) (z_K ad ca q) (z_K ad ca o.2) [.ref (ad 11)] o.1 := by
  refine z_ci_of (own := z_RFl) (by decide) rfl ?_
  intro p e s m below meth c A C0 hw
  obtain ⟨hx, hb, hr, hlk, hml, hown, hts, hK, hA⟩ := id C0
  generalize hH : s.heap = H at hw ⊢
  generalize hlo : ([] : List Loc) = locs at hw ⊢
  refine z_entry (lv := [(0, .ref (ad 11))]) (Nat.le_of_ble_eq_true rfl) rfl (fun ls hl => ?_)
  unfold f_Fl_leave at h
  refine lv_aload_n hx hb d_Fl_leave_0 rfl (lv_at hl 0 rfl) ?_
  refine gfK_11_state C0 hw fl_Fl_9 d_Fl_leave_1 ?_
  refine gfK_1_registers C0 hw fl_Fl_101 d_Fl_leave_4 ?_
  refine lv_iconst (v := (5 : Int32)) hx hb d_Fl_leave_7 (by decide) ?_
  obtain ⟨b1, h⟩ := ok_g h
  refine alK_2 C0 hw b1 d_Fl_leave_8 ?_
  obtain ⟨n2, en2, h⟩ := ok_n h
  refine z_tl en2 ?_
  refine lv_lstore_n (lv' := [(1, .long n2), (0, .ref (ad 11))]) hx hb d_Fl_leave_9 rfl hl (by decide) rfl (fun ls hl => ?_)
  refine lv_aload_n hx hb d_Fl_leave_10 rfl (lv_at hl 1 rfl) ?_
  refine gfK_11_top C0 hw fl_Fl_27 d_Fl_leave_11 ?_
  refine lv_lload_n hx hb d_Fl_leave_14 rfl (lv_at hl 0 rfl) ?_
  refine lv_bipush (v := (8 : Int32)) hx hb d_Fl_leave_15 (by decide) ?_
  refine lv_iconst (v := (0 : Int32)) hx hb d_Fl_leave_17 (by decide) ?_
  refine lv_iconst (v := (1 : Int32)) hx hb d_Fl_leave_18 (by decide) ?_
  obtain ⟨r3, er3, h⟩ := ok_b h
  refine z_vi (rest := []) C0 hw (c_Sp_find_12 n2 (8 : Int32) (0 : Int32) (1 : Int32) q r3 er3) mw_Sp_find ml_Fl_127 12 rfl ⟨Nat.le_of_ble_eq_true rfl, Nat.le_of_ble_eq_true rfl⟩ ⟨Nat.le_refl 0, Nat.le_refl 0⟩ rfl hl.1 rfl (Nat.le_of_ble_eq_true rfl) d_Fl_leave_19 (fun H locs hw => ?_)
  refine lv_istore_n (lv' := [(3, .int r3.1), (1, .long n2), (0, .ref (ad 11))]) hx hb d_Fl_leave_22 rfl hl (by decide) rfl (fun ls hl => ?_)
  refine lv_iload_n hx hb d_Fl_leave_23 rfl (lv_at hl 0 rfl) ?_
  refine lv_iconst (v := (-1 : Int32)) hx hb d_Fl_leave_24 (by decide) ?_
  refine lv_icmp_ne (tgt := 58) hx hb d_Fl_leave_25 (by decide) (fun c4 => ?_) (fun c4 => ?_)
  · have h := ok_f h c4
    exact w_Fl_leave_58 o C0 r3.2 r3.1 h H locs ls hw (lv_sub hl [0] rfl)
  · have h := ok_t h c4
    refine lv_aload_n hx hb d_Fl_leave_28 rfl (lv_at hl 2 rfl) ?_
    refine gfK_11_state C0 hw fl_Fl_9 d_Fl_leave_29 ?_
    refine gfK_1_registers C0 hw fl_Fl_101 d_Fl_leave_32 ?_
    refine lv_iconst (v := (5 : Int32)) hx hb d_Fl_leave_35 (by decide) ?_
    refine lv_aload_n hx hb d_Fl_leave_36 rfl (lv_at hl 2 rfl) ?_
    refine gfK_11_top C0 hw fl_Fl_27 d_Fl_leave_37 ?_
    obtain ⟨r5, er5, h⟩ := ok_b h
    refine z_vl (rest := [.int (5 : Int32), .ref (ad 2)]) C0 hw (c_Sp_value_12 r3.2 r5 er5) mw_Sp_value ml_Fl_140 12 rfl ⟨Nat.le_of_ble_eq_true rfl, Nat.le_of_ble_eq_true rfl⟩ ⟨Nat.le_refl 0, Nat.le_refl 0⟩ rfl hl.1 rfl (Nat.le_of_ble_eq_true rfl) d_Fl_leave_40 (fun H locs hw => ?_)
    obtain ⟨b6, h⟩ := ok_g h
    refine asK_2 C0 hw b6 d_Fl_leave_43 (fun H locs hw => ?_)
    obtain ⟨q7, eq7, h⟩ := ok_n h
    rw [← eq7] at hw
    refine lv_aload_n hx hb d_Fl_leave_44 rfl (lv_at hl 2 rfl) ?_
    refine gfK_11_state C0 hw fl_Fl_9 d_Fl_leave_45 ?_
    refine gfK_1_registers C0 hw fl_Fl_101 d_Fl_leave_48 ?_
    refine lv_iconst (v := (4 : Int32)) hx hb d_Fl_leave_51 (by decide) ?_
    refine lv_lload_n hx hb d_Fl_leave_52 rfl (lv_at hl 1 rfl) ?_
    refine lv_ldc2 (own := z_RFl) hx hb hown (hts _ kl_Fl_154) d_Fl_leave_53 ?_
    refine lv_ladd hx hb d_Fl_leave_56 ?_
    obtain ⟨b8, h⟩ := ok_g h
    refine asK_2 C0 hw b8 d_Fl_leave_57 (fun H locs hw => ?_)
    obtain ⟨q9, eq9, h⟩ := ok_n h
    rw [← eq9] at hw
    exact w_Fl_leave_58 o C0 q9 r3.1 h H locs ls hw (lv_sub hl [0] rfl)
def k_Fl_countDown_125 (x5 : Int32) (q : z_Sg) : Option (Int32 × z_Sg) :=
  some (x5, q)
def k_Fl_countDown_107 (x1 : Int64) (t0 : Int32) (q : z_Sg) : Option (Int32 × z_Sg) :=
  if t0 = (-1 : Int32) then (if z_bad (1 : Int32) 16 then none else (z_nm (z_sM q 0 (1 : Int32).toNatClampNeg x1) (fun q8 => k_Fl_countDown_125 t0 q8))) else (k_Fl_countDown_125 t0 q)
def k_Fl_countDown_77 (x1 : Int64) (t0 : Int32) (q : z_Sg) : Option (Int32 × z_Sg) :=
  if t0 = 0 then (k_Fl_countDown_107 x1 (-1 : Int32) q) else ((f_Fl_jump ((z_gL q 10) + (z_gL q 9)) q).bind (fun r9 => k_Fl_countDown_107 x1 r9.1 r9.2))
def k_Fl_countDown_76 (x1 : Int64) (q : z_Sg) : Option (Int32 × z_Sg) :=
  k_Fl_countDown_77 x1 (0 : Int32) q
def k_Fl_countDown_72 (x1 : Int64) (q : z_Sg) : Option (Int32 × z_Sg) :=
  k_Fl_countDown_77 x1 (1 : Int32) q
def k_Fl_countDown_69 (x1 : Int64) (t0 : Int32) (t1 : Int32) (q : z_Sg) : Option (Int32 × z_Sg) :=
  if t0 = t1 then (k_Fl_countDown_72 x1 q) else (k_Fl_countDown_76 x1 q)
def k_Fl_countDown_30 (x1 : Int64) (t0 : Int32) (q : z_Sg) : Option (Int32 × z_Sg) :=
  if x1 = (0 : Int64) then (k_Fl_countDown_76 x1 q) else (if (z_gI q 11) = (226 : Int32) then (k_Fl_countDown_72 x1 q) else (if (z_gI q 11) = (225 : Int32) then (k_Fl_countDown_69 x1 t0 (1 : Int32) q) else (k_Fl_countDown_69 x1 t0 (0 : Int32) q)))
def f_Fl_countDown (q : z_Sg) : Option (Int32 × z_Sg) :=
  if z_bad (1 : Int32) 16 then none else (z_nm (((z_gM q 0 (1 : Int32).toNatClampNeg) - (1 : Int64))) (fun n2 => if ((z_gI q 0) &&& (64 : Int32)) = 0 then (k_Fl_countDown_30 n2 (0 : Int32) q) else (k_Fl_countDown_30 n2 (1 : Int32) q)))
set_option maxHeartbeats 4000000 in
set_option maxRecDepth 100000 in
theorem w_Fl_countDown_125 {p : Program} {l : Launch} {e : Env} {s : State} {m : MethodId} {args : Array Value} {below : List Frame} {meth : Method} {c : Code} {D : va_G} {A : Nat → Prop} {ad : Nat → Nat} {ca : Nat → ClassId} (o : (Int32 × z_Sg)) (C0 : z_cx z_RFl b_Fl_countDown 6 (some .int) D (z_Kt ca) A p s m args meth c) (q : z_Sg) (x5 : Int32) (h : k_Fl_countDown_125 x5 q = some o) : ∀ (H : Heap) (locs : List Loc) (ls : Array Slot), z_wd D (z_K ad ca q) A s H locs → lv_has ls 6 [(5, .int x5)] → W p l e (z_rm 2 45) s m args below meth c H locs 0 0 (z_qi below D (z_Kt ca) (z_K ad ca o.2) A s args o.1) (F0 m 125 ls []) := by
  obtain ⟨hx, hb, hr, hlk, hml, hown, hts, hK, hA⟩ := id C0
  intro H locs ls hw hl
  refine lv_iload hx hb d_Fl_countDown_125 (lv_at hl 0 rfl) ?_
  have ho := Option.some.inj h
  subst ho
  exact z_rti C0 hw d_Fl_countDown_127
set_option maxHeartbeats 4000000 in
set_option maxRecDepth 100000 in
theorem w_Fl_countDown_107 {p : Program} {l : Launch} {e : Env} {s : State} {m : MethodId} {args : Array Value} {below : List Frame} {meth : Method} {c : Code} {D : va_G} {A : Nat → Prop} {ad : Nat → Nat} {ca : Nat → ClassId} (o : (Int32 × z_Sg)) (C0 : z_cx z_RFl b_Fl_countDown 6 (some .int) D (z_Kt ca) A p s m args meth c) (q : z_Sg) (x1 : Int64) (t0 : Int32) (h : k_Fl_countDown_107 x1 t0 q = some o) : ∀ (H : Heap) (locs : List Loc) (ls : Array Slot), z_wd D (z_K ad ca q) A s H locs → lv_has ls 6 [(0, .ref (ad 11)), (1, .long x1)] → W p l e (z_rm 2 45) s m args below meth c H locs 0 0 (z_qi below D (z_Kt ca) (z_K ad ca o.2) A s args o.1) (F0 m 107 ls [.int t0]) := by
  obtain ⟨hx, hb, hr, hlk, hml, hown, hts, hK, hA⟩ := id C0
  intro H locs ls hw hl
  refine lv_istore (lv' := [(5, .int t0), (0, .ref (ad 11)), (1, .long x1)]) hx hb d_Fl_countDown_107 hl (by decide) rfl (fun ls hl => ?_)
  refine lv_iload hx hb d_Fl_countDown_109 (lv_at hl 0 rfl) ?_
  refine lv_iconst (v := (-1 : Int32)) hx hb d_Fl_countDown_111 (by decide) ?_
  refine lv_icmp_ne (tgt := 125) hx hb d_Fl_countDown_112 (by decide) (fun c6 => ?_) (fun c6 => ?_)
  · have h := ok_f h c6
    exact w_Fl_countDown_125 o C0 q t0 h H locs ls hw (lv_sub hl [0] rfl)
  · have h := ok_t h c6
    refine lv_aload_n hx hb d_Fl_countDown_115 rfl (lv_at hl 1 rfl) ?_
    refine gfK_11_state C0 hw fl_Fl_9 d_Fl_countDown_116 ?_
    refine gfK_1_registers C0 hw fl_Fl_101 d_Fl_countDown_119 ?_
    refine lv_iconst (v := (1 : Int32)) hx hb d_Fl_countDown_122 (by decide) ?_
    refine lv_lload_n hx hb d_Fl_countDown_123 rfl (lv_at hl 2 rfl) ?_
    obtain ⟨b7, h⟩ := ok_g h
    refine asK_2 C0 hw b7 d_Fl_countDown_124 (fun H locs hw => ?_)
    obtain ⟨q8, eq8, h⟩ := ok_n h
    rw [← eq8] at hw
    exact w_Fl_countDown_125 o C0 q8 t0 h H locs ls hw (lv_sub hl [0] rfl)
set_option maxHeartbeats 4000000 in
set_option maxRecDepth 100000 in
theorem w_Fl_countDown_77 {p : Program} {l : Launch} {e : Env} {s : State} {m : MethodId} {args : Array Value} {below : List Frame} {meth : Method} {c : Code} {D : va_G} {A : Nat → Prop} {ad : Nat → Nat} {ca : Nat → ClassId} (o : (Int32 × z_Sg)) (C0 : z_cx z_RFl b_Fl_countDown 6 (some .int) D (z_Kt ca) A p s m args meth c) (q : z_Sg) (x1 : Int64) (t0 : Int32) (h : k_Fl_countDown_77 x1 t0 q = some o) : ∀ (H : Heap) (locs : List Loc) (ls : Array Slot), z_wd D (z_K ad ca q) A s H locs → lv_has ls 6 [(0, .ref (ad 11)), (1, .long x1)] → W p l e (z_rm 2 45) s m args below meth c H locs 0 0 (z_qi below D (z_Kt ca) (z_K ad ca o.2) A s args o.1) (F0 m 77 ls [.int t0]) := by
  obtain ⟨hx, hb, hr, hlk, hml, hown, hts, hK, hA⟩ := id C0
  intro H locs ls hw hl
  refine lv_istore (lv' := [(4, .int t0), (0, .ref (ad 11)), (1, .long x1)]) hx hb d_Fl_countDown_77 hl (by decide) rfl (fun ls hl => ?_)
  refine lv_iload hx hb d_Fl_countDown_79 (lv_at hl 0 rfl) ?_
  refine lv_if_eq (tgt := 106) hx hb d_Fl_countDown_81 (by decide) (fun c5 => ?_) (fun c5 => ?_)
  · have h := ok_t h c5
    refine lv_iconst (v := (-1 : Int32)) hx hb d_Fl_countDown_106 (by decide) ?_
    exact w_Fl_countDown_107 o C0 q x1 (-1 : Int32) h H locs ls hw (lv_sub hl [1, 2] rfl)
  · have h := ok_f h c5
    refine lv_aload_n hx hb d_Fl_countDown_84 rfl (lv_at hl 1 rfl) ?_
    refine lv_aload_n hx hb d_Fl_countDown_85 rfl (lv_at hl 1 rfl) ?_
    refine gfK_11_code C0 hw fl_Fl_15 d_Fl_countDown_86 ?_
    refine gfK_5_onward C0 hw fl_Fl_64 d_Fl_countDown_89 ?_
    refine lv_aload_n hx hb d_Fl_countDown_92 rfl (lv_at hl 1 rfl) ?_
    refine gfK_11_code C0 hw fl_Fl_15 d_Fl_countDown_93 ?_
    refine gfK_5_number C0 hw fl_Fl_68 d_Fl_countDown_96 ?_
    refine lv_ladd hx hb d_Fl_countDown_99 ?_
    obtain ⟨r9, er9, h⟩ := ok_b h
    refine z_vi (rest := []) C0 hw (c_Fl_jump ((z_gL q 10) + (z_gL q 9)) q r9 er9) mw_Fl_jump ml_Fl_71 11 rfl ⟨Nat.le_of_ble_eq_true rfl, Nat.le_of_ble_eq_true rfl⟩ ⟨Nat.le_refl 0, Nat.le_refl 0⟩ rfl hl.1 rfl (Nat.le_of_ble_eq_true rfl) d_Fl_countDown_100 (fun H locs hw => ?_)
    refine lv_goto (tgt := 107) hx hb d_Fl_countDown_103 (by decide) ?_
    exact w_Fl_countDown_107 o C0 r9.2 x1 r9.1 h H locs ls hw (lv_sub hl [1, 2] rfl)
set_option maxHeartbeats 4000000 in
set_option maxRecDepth 100000 in
theorem w_Fl_countDown_76 {p : Program} {l : Launch} {e : Env} {s : State} {m : MethodId} {args : Array Value} {below : List Frame} {meth : Method} {c : Code} {D : va_G} {A : Nat → Prop} {ad : Nat → Nat} {ca : Nat → ClassId} (o : (Int32 × z_Sg)) (C0 : z_cx z_RFl b_Fl_countDown 6 (some .int) D (z_Kt ca) A p s m args meth c) (q : z_Sg) (x1 : Int64) (h : k_Fl_countDown_76 x1 q = some o) : ∀ (H : Heap) (locs : List Loc) (ls : Array Slot), z_wd D (z_K ad ca q) A s H locs → lv_has ls 6 [(0, .ref (ad 11)), (1, .long x1)] → W p l e (z_rm 2 45) s m args below meth c H locs 0 0 (z_qi below D (z_Kt ca) (z_K ad ca o.2) A s args o.1) (F0 m 76 ls []) := by
  obtain ⟨hx, hb, hr, hlk, hml, hown, hts, hK, hA⟩ := id C0
  intro H locs ls hw hl
  refine lv_iconst (v := (0 : Int32)) hx hb d_Fl_countDown_76 (by decide) ?_
  exact w_Fl_countDown_77 o C0 q x1 (0 : Int32) h H locs ls hw (lv_sub hl [0, 1] rfl)
set_option maxHeartbeats 4000000 in
set_option maxRecDepth 100000 in
theorem w_Fl_countDown_72 {p : Program} {l : Launch} {e : Env} {s : State} {m : MethodId} {args : Array Value} {below : List Frame} {meth : Method} {c : Code} {D : va_G} {A : Nat → Prop} {ad : Nat → Nat} {ca : Nat → ClassId} (o : (Int32 × z_Sg)) (C0 : z_cx z_RFl b_Fl_countDown 6 (some .int) D (z_Kt ca) A p s m args meth c) (q : z_Sg) (x1 : Int64) (h : k_Fl_countDown_72 x1 q = some o) : ∀ (H : Heap) (locs : List Loc) (ls : Array Slot), z_wd D (z_K ad ca q) A s H locs → lv_has ls 6 [(0, .ref (ad 11)), (1, .long x1)] → W p l e (z_rm 2 45) s m args below meth c H locs 0 0 (z_qi below D (z_Kt ca) (z_K ad ca o.2) A s args o.1) (F0 m 72 ls []) := by
  obtain ⟨hx, hb, hr, hlk, hml, hown, hts, hK, hA⟩ := id C0
  intro H locs ls hw hl
  refine lv_iconst (v := (1 : Int32)) hx hb d_Fl_countDown_72 (by decide) ?_
  refine lv_goto (tgt := 77) hx hb d_Fl_countDown_73 (by decide) ?_
  exact w_Fl_countDown_77 o C0 q x1 (1 : Int32) h H locs ls hw (lv_sub hl [0, 1] rfl)
set_option maxHeartbeats 4000000 in
set_option maxRecDepth 100000 in
theorem w_Fl_countDown_69 {p : Program} {l : Launch} {e : Env} {s : State} {m : MethodId} {args : Array Value} {below : List Frame} {meth : Method} {c : Code} {D : va_G} {A : Nat → Prop} {ad : Nat → Nat} {ca : Nat → ClassId} (o : (Int32 × z_Sg)) (C0 : z_cx z_RFl b_Fl_countDown 6 (some .int) D (z_Kt ca) A p s m args meth c) (q : z_Sg) (x1 : Int64) (t0 : Int32) (t1 : Int32) (h : k_Fl_countDown_69 x1 t0 t1 q = some o) : ∀ (H : Heap) (locs : List Loc) (ls : Array Slot), z_wd D (z_K ad ca q) A s H locs → lv_has ls 6 [(0, .ref (ad 11)), (1, .long x1)] → W p l e (z_rm 2 45) s m args below meth c H locs 0 0 (z_qi below D (z_Kt ca) (z_K ad ca o.2) A s args o.1) (F0 m 69 ls [.int t1, .int t0]) := by
  obtain ⟨hx, hb, hr, hlk, hml, hown, hts, hK, hA⟩ := id C0
  intro H locs ls hw hl
  refine lv_icmp_ne (tgt := 76) hx hb d_Fl_countDown_69 (by decide) (fun c12 => ?_) (fun c12 => ?_)
  · have h := ok_f h c12
    exact w_Fl_countDown_76 o C0 q x1 h H locs ls hw (lv_sub hl [0, 1] rfl)
  · have h := ok_t h c12
    exact w_Fl_countDown_72 o C0 q x1 h H locs ls hw (lv_sub hl [0, 1] rfl)
set_option maxHeartbeats 4000000 in
set_option maxRecDepth 100000 in
theorem w_Fl_countDown_30 {p : Program} {l : Launch} {e : Env} {s : State} {m : MethodId} {args : Array Value} {below : List Frame} {meth : Method} {c : Code} {D : va_G} {A : Nat → Prop} {ad : Nat → Nat} {ca : Nat → ClassId} (o : (Int32 × z_Sg)) (C0 : z_cx z_RFl b_Fl_countDown 6 (some .int) D (z_Kt ca) A p s m args meth c) (q : z_Sg) (x1 : Int64) (t0 : Int32) (h : k_Fl_countDown_30 x1 t0 q = some o) : ∀ (H : Heap) (locs : List Loc) (ls : Array Slot), z_wd D (z_K ad ca q) A s H locs → lv_has ls 6 [(0, .ref (ad 11)), (1, .long x1)] → W p l e (z_rm 2 45) s m args below meth c H locs 0 0 (z_qi below D (z_Kt ca) (z_K ad ca o.2) A s args o.1) (F0 m 30 ls [.int t0]) := by
  obtain ⟨hx, hb, hr, hlk, hml, hown, hts, hK, hA⟩ := id C0
  intro H locs ls hw hl
  refine lv_istore_n (lv' := [(3, .int t0), (0, .ref (ad 11)), (1, .long x1)]) hx hb d_Fl_countDown_30 rfl hl (by decide) rfl (fun ls hl => ?_)
  refine lv_lload_n hx hb d_Fl_countDown_31 rfl (lv_at hl 2 rfl) ?_
  refine lv_lconst (v := (0 : Int64)) hx hb d_Fl_countDown_32 (by decide) ?_
  refine W.lcmp hx hb d_Fl_countDown_33 ?_
  refine lv_if_eq (tgt := 76) hx hb d_Fl_countDown_34 (by decide) (fun c4 => ?_) (fun c4 => ?_)
  · have h := ok_t h ((lg_cmp_eq _ _).mp c4)
    exact w_Fl_countDown_76 o C0 q x1 h H locs ls hw (lv_sub hl [1, 2] rfl)
  · have h := ok_f h (fun z => c4 ((lg_cmp_eq _ _).mpr z))
    refine lv_aload_n hx hb d_Fl_countDown_37 rfl (lv_at hl 1 rfl) ?_
    refine gfK_11_code C0 hw fl_Fl_15 d_Fl_countDown_38 ?_
    refine gfK_5_opcode C0 hw fl_Fl_31 d_Fl_countDown_41 ?_
    refine lv_sipush (v := (226 : Int32)) hx hb d_Fl_countDown_44 (by decide) ?_
    refine lv_icmp_eq (tgt := 72) hx hb d_Fl_countDown_47 (by decide) (fun c10 => ?_) (fun c10 => ?_)
    · have h := ok_t h c10
      exact w_Fl_countDown_72 o C0 q x1 h H locs ls hw (lv_sub hl [1, 2] rfl)
    · have h := ok_f h c10
      refine lv_iload_n hx hb d_Fl_countDown_50 rfl (lv_at hl 0 rfl) ?_
      refine lv_aload_n hx hb d_Fl_countDown_51 rfl (lv_at hl 1 rfl) ?_
      refine gfK_11_code C0 hw fl_Fl_15 d_Fl_countDown_52 ?_
      refine gfK_5_opcode C0 hw fl_Fl_31 d_Fl_countDown_55 ?_
      refine lv_sipush (v := (225 : Int32)) hx hb d_Fl_countDown_58 (by decide) ?_
      refine lv_icmp_ne (tgt := 68) hx hb d_Fl_countDown_61 (by decide) (fun c11 => ?_) (fun c11 => ?_)
      · have h := ok_f h c11
        refine lv_iconst (v := (0 : Int32)) hx hb d_Fl_countDown_68 (by decide) ?_
        exact w_Fl_countDown_69 o C0 q x1 t0 (0 : Int32) h H locs ls hw (lv_sub hl [1, 2] rfl)
      · have h := ok_t h c11
        refine lv_iconst (v := (1 : Int32)) hx hb d_Fl_countDown_64 (by decide) ?_
        refine lv_goto (tgt := 69) hx hb d_Fl_countDown_65 (by decide) ?_
        exact w_Fl_countDown_69 o C0 q x1 t0 (1 : Int32) h H locs ls hw (lv_sub hl [1, 2] rfl)
set_option maxHeartbeats 4000000 in
set_option maxRecDepth 100000 in
theorem c_Fl_countDown {l : Launch} {D : va_G} {ad : Nat → Nat} {ca : Nat → ClassId} (q : z_Sg) (o : (Int32 × z_Sg)) (h : f_Fl_countDown q = some o) : z_ci l y_Fl_countDown b_Fl_countDown 6 (some .int) 2 45 D (z_Kt ca) (z_K ad ca q) (z_K ad ca o.2) [.ref (ad 11)] o.1 := by
  refine z_ci_of (own := z_RFl) (by decide) rfl ?_
  intro p e s m below meth c A C0 hw
  obtain ⟨hx, hb, hr, hlk, hml, hown, hts, hK, hA⟩ := id C0
  generalize hH : s.heap = H at hw ⊢
  generalize hlo : ([] : List Loc) = locs at hw ⊢
  refine z_entry (lv := [(0, .ref (ad 11))]) (Nat.le_of_ble_eq_true rfl) rfl (fun ls hl => ?_)
  unfold f_Fl_countDown at h
  refine lv_aload_n hx hb d_Fl_countDown_0 rfl (lv_at hl 0 rfl) ?_
  refine gfK_11_state C0 hw fl_Fl_9 d_Fl_countDown_1 ?_
  refine gfK_1_registers C0 hw fl_Fl_101 d_Fl_countDown_4 ?_
  refine lv_iconst (v := (1 : Int32)) hx hb d_Fl_countDown_7 (by decide) ?_
  obtain ⟨b1, h⟩ := ok_g h
  refine alK_2 C0 hw b1 d_Fl_countDown_8 ?_
  refine lv_lconst (v := (1 : Int64)) hx hb d_Fl_countDown_9 (by decide) ?_
  refine lv_lsub hx hb d_Fl_countDown_10 ?_
  obtain ⟨n2, en2, h⟩ := ok_n h
  refine z_tl en2 ?_
  refine lv_lstore_n (lv' := [(1, .long n2), (0, .ref (ad 11))]) hx hb d_Fl_countDown_11 rfl hl (by decide) rfl (fun ls hl => ?_)
  refine lv_aload_n hx hb d_Fl_countDown_12 rfl (lv_at hl 1 rfl) ?_
  refine gfK_11_state C0 hw fl_Fl_9 d_Fl_countDown_13 ?_
  refine gfK_1_flags C0 hw fl_Fl_84 d_Fl_countDown_16 ?_
  refine lv_bipush (v := (64 : Int32)) hx hb d_Fl_countDown_19 (by decide) ?_
  refine lv_iand hx hb d_Fl_countDown_21 ?_
  refine lv_if_eq (tgt := 29) hx hb d_Fl_countDown_22 (by decide) (fun c3 => ?_) (fun c3 => ?_)
  · have h := ok_t h c3
    refine lv_iconst (v := (0 : Int32)) hx hb d_Fl_countDown_29 (by decide) ?_
    exact w_Fl_countDown_30 o C0 q n2 (0 : Int32) h H locs ls hw (lv_sub hl [1, 0] rfl)
  · have h := ok_f h c3
    refine lv_iconst (v := (1 : Int32)) hx hb d_Fl_countDown_25 (by decide) ?_
    refine lv_goto (tgt := 30) hx hb d_Fl_countDown_26 (by decide) ?_
    exact w_Fl_countDown_30 o C0 q n2 (1 : Int32) h H locs ls hw (lv_sub hl [1, 0] rfl)
def k_Fl_call_37 (x3 : Int32) (q : z_Sg) : Option (Int32 × z_Sg) :=
  some (x3, q)
def f_Fl_call (x1 : Int64) (q : z_Sg) : Option (Int32 × z_Sg) :=
  (f_Pa_isWrong x1 q).bind (fun r1 => if r1 = 0 then ((f_Fl_push (z_gL q 10) (8 : Int32) q).bind (fun r3 => if r3.1 = (-1 : Int32) then (z_nm (z_sL r3.2 10 x1) (fun q5 => k_Fl_call_37 r3.1 q5)) else (k_Fl_call_37 r3.1 r3.2))) else (some ((13 : Int32), q)))
set_option maxHeartbeats 4000000 in
set_option maxRecDepth 100000 in
theorem w_Fl_call_37 {p : Program} {l : Launch} {e : Env} {s : State} {m : MethodId} {args : Array Value} {below : List Frame} {meth : Method} {c : Code} {D : va_G} {A : Nat → Prop} {ad : Nat → Nat} {ca : Nat → ClassId} (o : (Int32 × z_Sg)) (C0 : z_cx z_RFl b_Fl_call 4 (some .int) D (z_Kt ca) A p s m args meth c) (q : z_Sg) (x3 : Int32) (h : k_Fl_call_37 x3 q = some o) : ∀ (H : Heap) (locs : List Loc) (ls : Array Slot), z_wd D (z_K ad ca q) A s H locs → lv_has ls 4 [(3, .int x3)] → W p l e (z_rm 4 115) s m args below meth c H locs 0 0 (z_qi below D (z_Kt ca) (z_K ad ca o.2) A s args o.1) (F0 m 37 ls []) := by
  obtain ⟨hx, hb, hr, hlk, hml, hown, hts, hK, hA⟩ := id C0
  intro H locs ls hw hl
  refine lv_iload_n hx hb d_Fl_call_37 rfl (lv_at hl 0 rfl) ?_
  have ho := Option.some.inj h
  subst ho
  exact z_rti C0 hw d_Fl_call_38
set_option maxHeartbeats 4000000 in
set_option maxRecDepth 100000 in
theorem c_Fl_call {l : Launch} {D : va_G} {ad : Nat → Nat} {ca : Nat → ClassId} (x1 : Int64) (q : z_Sg) (o : (Int32 × z_Sg)) (h : f_Fl_call x1 q = some o) : z_ci l y_Fl_call b_Fl_call 4 (some .int) 4 115 D (z_Kt ca) (z_K ad ca q) (z_K ad ca o.2) [.ref (ad 11), .long x1] o.1 := by
  refine z_ci_of (own := z_RFl) (by decide) rfl ?_
  intro p e s m below meth c A C0 hw
  obtain ⟨hx, hb, hr, hlk, hml, hown, hts, hK, hA⟩ := id C0
  generalize hH : s.heap = H at hw ⊢
  generalize hlo : ([] : List Loc) = locs at hw ⊢
  refine z_entry (lv := [(0, .ref (ad 11)), (1, .long x1)]) (Nat.le_of_ble_eq_true rfl) rfl (fun ls hl => ?_)
  unfold f_Fl_call at h
  refine lv_lload_n hx hb d_Fl_call_0 rfl (lv_at hl 1 rfl) ?_
  obtain ⟨r1, er1, h⟩ := ok_b h
  refine z_si (rest := []) C0 hw (c_Pa_isWrong x1 q r1 er1) mw_Pa_isWrong ml_Fl_121 ⟨Nat.le_of_ble_eq_true rfl, Nat.le_of_ble_eq_true rfl⟩ ⟨Nat.le_refl 0, Nat.le_refl 0⟩ rfl hl.1 rfl (Nat.le_of_ble_eq_true rfl) d_Fl_call_1 (fun H locs hw => ?_)
  refine lv_if_eq (tgt := 10) hx hb d_Fl_call_4 (by decide) (fun c2 => ?_) (fun c2 => ?_)
  · have h := ok_t h c2
    refine lv_aload_n hx hb d_Fl_call_10 rfl (lv_at hl 0 rfl) ?_
    refine lv_aload_n hx hb d_Fl_call_11 rfl (lv_at hl 0 rfl) ?_
    refine gfK_11_code C0 hw fl_Fl_15 d_Fl_call_12 ?_
    refine gfK_5_onward C0 hw fl_Fl_64 d_Fl_call_15 ?_
    refine lv_bipush (v := (8 : Int32)) hx hb d_Fl_call_18 (by decide) ?_
    obtain ⟨r3, er3, h⟩ := ok_b h
    refine z_vi (rest := []) C0 hw (c_Fl_push (z_gL q 10) (8 : Int32) q r3 er3) mw_Fl_push ml_Fl_50 11 rfl ⟨Nat.le_of_ble_eq_true rfl, Nat.le_of_ble_eq_true rfl⟩ ⟨Nat.le_refl 0, Nat.le_refl 0⟩ rfl hl.1 rfl (Nat.le_of_ble_eq_true rfl) d_Fl_call_20 (fun H locs hw => ?_)
    refine lv_istore_n (lv' := [(3, .int r3.1), (0, .ref (ad 11)), (1, .long x1)]) hx hb d_Fl_call_23 rfl hl (by decide) rfl (fun ls hl => ?_)
    refine lv_iload_n hx hb d_Fl_call_24 rfl (lv_at hl 0 rfl) ?_
    refine lv_iconst (v := (-1 : Int32)) hx hb d_Fl_call_25 (by decide) ?_
    refine lv_icmp_ne (tgt := 37) hx hb d_Fl_call_26 (by decide) (fun c4 => ?_) (fun c4 => ?_)
    · have h := ok_f h c4
      exact w_Fl_call_37 o C0 r3.2 r3.1 h H locs ls hw (lv_sub hl [0] rfl)
    · have h := ok_t h c4
      refine lv_aload_n hx hb d_Fl_call_29 rfl (lv_at hl 1 rfl) ?_
      refine gfK_11_code C0 hw fl_Fl_15 d_Fl_call_30 ?_
      refine lv_lload_n hx hb d_Fl_call_33 rfl (lv_at hl 2 rfl) ?_
      refine pfK_5_onward C0 hw fl_Fl_64 d_Fl_call_34 (fun H locs hw => ?_)
      obtain ⟨q5, eq5, h⟩ := ok_n h
      rw [← eq5] at hw
      exact w_Fl_call_37 o C0 q5 r3.1 h H locs ls hw (lv_sub hl [0] rfl)
  · have h := ok_f h c2
    refine lv_bipush (v := (13 : Int32)) hx hb d_Fl_call_7 (by decide) ?_
    have ho := Option.some.inj h
    subst ho
    exact z_rti C0 hw d_Fl_call_9
def kb_Sp_value_7_4 (ih4 : Int64 × Int32 → Option Int64) (x1 : Int64) (x3 : Int32) (q : z_Sg) : Option Int64 :=
  if (z_gI q 16) ≤ x3 then (some x1) else (if z_bad x3 8 then none else ((f_Pa_byteAt (z_gM q 2 x3.toNatClampNeg) q).bind (fun r3 => z_nm ((x1 ||| (z_lshl (r3.toInt64) ((8 : Int32) * x3)))) (fun n4 => z_nm (x3 + (1 : Int32)) (fun n5 => ih4 (n4, n5))))))
def k_Sp_value_7_4 (x1 : Int64) (x3 : Int32) (q : z_Sg) : Option Int64 := z_lo (fun ih4 a => kb_Sp_value_7_4 ih4 a.1 a.2 q) 2000 (x1, x3)
def f_Sp_value_7 (q : z_Sg) : Option Int64 :=
  k_Sp_value_7_4 (0 : Int64) (0 : Int32) q
set_option maxHeartbeats 4000000 in
set_option maxRecDepth 100000 in
theorem wb_Sp_value_7_4 {p : Program} {l : Launch} {e : Env} {s : State} {m : MethodId} {args : Array Value} {below : List Frame} {meth : Method} {c : Code} {D : va_G} {A : Nat → Prop} {ad : Nat → Nat} {ca : Nat → ClassId} (o : Int64) (C0 : z_cx z_RSp b_Sp_value 4 (some .long) D (z_Kt ca) A p s m args meth c) (q : z_Sg) (ih4 : Int64 × Int32 → Option Int64) (hi4 : ∀ a : Int64 × Int32, ih4 a = some o → ∀ (H : Heap) (locs : List Loc) (ls : Array Slot), z_wd D (z_K ad ca q) A s H locs → lv_has ls 4 [(0, .ref (ad 7)), (1, .long a.1), (3, .int a.2)] → W p l e (z_rm 1 23) s m args below meth c H locs 0 0 (z_ql below D (z_Kt ca) (z_K ad ca q) A s args o) (F0 m 4 ls [])) (x1 : Int64) (x3 : Int32) (h : kb_Sp_value_7_4 ih4 x1 x3 q = some o) : ∀ (H : Heap) (locs : List Loc) (ls : Array Slot), z_wd D (z_K ad ca q) A s H locs → lv_has ls 4 [(0, .ref (ad 7)), (1, .long x1), (3, .int x3)] → W p l e (z_rm 1 23) s m args below meth c H locs 0 0 (z_ql below D (z_Kt ca) (z_K ad ca q) A s args o) (F0 m 4 ls []) := by
  obtain ⟨hx, hb, hr, hlk, hml, hown, hts, hK, hA⟩ := id C0
  intro H locs ls hw hl
  refine lv_iload_n hx hb d_Sp_value_4 rfl (lv_at hl 2 rfl) ?_
  refine lv_aload_n hx hb d_Sp_value_5 rfl (lv_at hl 0 rfl) ?_
  refine gfK_7_length C0 hw fl_Sp_25 d_Sp_value_6 ?_
  refine lv_icmp_ge (tgt := 40) hx hb d_Sp_value_9 (by decide) (fun c1 => ?_) (fun c1 => ?_)
  · have h := ok_t h c1
    refine lv_lload_n hx hb d_Sp_value_40 rfl (lv_at hl 1 rfl) ?_
    have ho := Option.some.inj h
    subst ho
    exact z_rtl C0 hw d_Sp_value_41
  · have h := ok_f h c1
    refine lv_lload_n hx hb d_Sp_value_12 rfl (lv_at hl 1 rfl) ?_
    refine lv_aload_n hx hb d_Sp_value_13 rfl (lv_at hl 0 rfl) ?_
    refine gfK_7_pages C0 hw fl_Sp_15 d_Sp_value_14 ?_
    refine lv_aload_n hx hb d_Sp_value_17 rfl (lv_at hl 0 rfl) ?_
    refine gfK_7_at C0 hw fl_Sp_9 d_Sp_value_18 ?_
    refine lv_iload_n hx hb d_Sp_value_21 rfl (lv_at hl 2 rfl) ?_
    obtain ⟨b2, h⟩ := ok_g h
    refine alK_8 C0 hw b2 d_Sp_value_22 ?_
    obtain ⟨r3, er3, h⟩ := ok_b h
    refine z_vi (rest := [.long x1]) C0 hw (c_Pa_byteAt (z_gM q 2 x3.toNatClampNeg) q r3 er3) mw_Pa_byteAt ml_Sp_41 3 rfl ⟨Nat.le_of_ble_eq_true rfl, Nat.le_of_ble_eq_true rfl⟩ ⟨Nat.le_refl 0, Nat.le_refl 0⟩ rfl hl.1 rfl (Nat.le_of_ble_eq_true rfl) d_Sp_value_23 (fun H locs hw => ?_)
    refine lv_i2l hx hb d_Sp_value_26 rfl ?_
    refine lv_bipush (v := (8 : Int32)) hx hb d_Sp_value_27 (by decide) ?_
    refine lv_iload_n hx hb d_Sp_value_29 rfl (lv_at hl 2 rfl) ?_
    refine lv_imul hx hb d_Sp_value_30 ?_
    refine lv_lshl (v := (z_lshl (r3.toInt64) ((8 : Int32) * x3))) hx hb d_Sp_value_31 rfl ?_
    refine lv_lor hx hb d_Sp_value_32 ?_
    obtain ⟨n4, en4, h⟩ := ok_n h
    refine z_tl en4 ?_
    refine lv_lstore_n (lv' := [(1, .long n4), (0, .ref (ad 7)), (3, .int x3)]) hx hb d_Sp_value_33 rfl hl (by decide) rfl (fun ls hl => ?_)
    obtain ⟨n5, en5, h⟩ := ok_n h
    refine lv_iinc (v := n5) (lv' := [(3, .int n5), (1, .long n4), (0, .ref (ad 7))]) hx hb d_Sp_value_34 hl (k := 2) rfl (by rw [en5]; rfl) (by decide) rfl (fun ls hl => ?_)
    refine lv_goto (tgt := 4) hx hb d_Sp_value_37 (by decide) ?_
    exact hi4 (n4, n5) h H locs ls hw (lv_sub hl [2, 1, 0] rfl)
theorem w_Sp_value_7_4 {p : Program} {l : Launch} {e : Env} {s : State} {m : MethodId} {args : Array Value} {below : List Frame} {meth : Method} {c : Code} {D : va_G} {A : Nat → Prop} {ad : Nat → Nat} {ca : Nat → ClassId} (o : Int64) (C0 : z_cx z_RSp b_Sp_value 4 (some .long) D (z_Kt ca) A p s m args meth c) (q : z_Sg) (x1 : Int64) (x3 : Int32) (h : k_Sp_value_7_4 x1 x3 q = some o) : ∀ (H : Heap) (locs : List Loc) (ls : Array Slot), z_wd D (z_K ad ca q) A s H locs → lv_has ls 4 [(0, .ref (ad 7)), (1, .long x1), (3, .int x3)] → W p l e (z_rm 1 23) s m args below meth c H locs 0 0 (z_ql below D (z_Kt ca) (z_K ad ca q) A s args o) (F0 m 4 ls []) := by
  have key : ∀ (n : Nat) (a : Int64 × Int32), z_lo (fun ih4 a => kb_Sp_value_7_4 ih4 a.1 a.2 q) n a = some o → ∀ (H : Heap) (locs : List Loc) (ls : Array Slot), z_wd D (z_K ad ca q) A s H locs → lv_has ls 4 [(0, .ref (ad 7)), (1, .long a.1), (3, .int a.2)] → W p l e (z_rm 1 23) s m args below meth c H locs 0 0 (z_ql below D (z_Kt ca) (z_K ad ca q) A s args o) (F0 m 4 ls []) := by
    intro n
    induction n with
    | zero => intro a h; cases h
    | succ n ih => exact fun a h => wb_Sp_value_7_4 o C0 q (z_lo (fun ih4 a => kb_Sp_value_7_4 ih4 a.1 a.2 q) n) ih a.1 a.2 h
  exact key 2000 (x1, x3) h
set_option maxHeartbeats 4000000 in
set_option maxRecDepth 100000 in
theorem c_Sp_value_7 {l : Launch} {D : va_G} {ad : Nat → Nat} {ca : Nat → ClassId} (q : z_Sg) (o : Int64) (h : f_Sp_value_7 q = some o) : z_cl l y_Sp_value b_Sp_value 4 (some .long) 1 23 D (z_Kt ca) (z_K ad ca q) (z_K ad ca q) [.ref (ad 7)] o := by
  refine z_cl_of (own := z_RSp) (by decide) rfl ?_
  intro p e s m below meth c A C0 hw
  obtain ⟨hx, hb, hr, hlk, hml, hown, hts, hK, hA⟩ := id C0
  generalize hH : s.heap = H at hw ⊢
  generalize hlo : ([] : List Loc) = locs at hw ⊢
  refine z_entry (lv := [(0, .ref (ad 7))]) (Nat.le_of_ble_eq_true rfl) rfl (fun ls hl => ?_)
  unfold f_Sp_value_7 at h
  refine lv_lconst (v := (0 : Int64)) hx hb d_Sp_value_0 (by decide) ?_
  refine lv_lstore_n (lv' := [(1, .long (0 : Int64)), (0, .ref (ad 7))]) hx hb d_Sp_value_1 rfl hl (by decide) rfl (fun ls hl => ?_)
  refine lv_iconst (v := (0 : Int32)) hx hb d_Sp_value_2 (by decide) ?_
  refine lv_istore_n (lv' := [(3, .int (0 : Int32)), (1, .long (0 : Int64)), (0, .ref (ad 7))]) hx hb d_Sp_value_3 rfl hl (by decide) rfl (fun ls hl => ?_)
  exact w_Sp_value_7_4 o C0 q (0 : Int64) (0 : Int32) h H locs ls hw (lv_sub hl [2, 1, 0] rfl)
