def k_Op_value_36 (t0 : Int64) (q : z_Sg) : Option Int64 :=
  some t0
def f_Op_value (q : z_Sg) : Option Int64 :=
  if (z_gI q 12) = (3 : Int32) then ((f_De_registerE q).bind (fun r3 => (f_Op_part r3 (z_gI q 15) q).bind (fun r4 => k_Op_value_36 r4 q))) else ((f_Sp_value_7 q).bind (fun r2 => k_Op_value_36 r2 q))
set_option maxHeartbeats 4000000 in
set_option maxRecDepth 100000 in
theorem w_Op_value_36 {p : Program} {l : Launch} {e : Env} {s : State} {m : MethodId} {args : Array Value} {below : List Frame} {meth : Method} {c : Code} {D : va_G} {A : Nat → Prop} {ad : Nat → Nat} {ca : Nat → ClassId} (o : Int64) (C0 : z_cx z_ROp b_Op_value 1 (some .long) D (z_Kt ca) A p s m args meth c) (q : z_Sg) (t0 : Int64) (h : k_Op_value_36 t0 q = some o) : ∀ (H : Heap) (locs : List Loc) (ls : Array Slot), z_wd D (z_K ad ca q) A s H locs → lv_has ls 1 [] → W p l e (z_rm 2 46) s m args below meth c H locs 0 0 (z_ql below D (z_Kt ca) (z_K ad ca q) A s args o) (F0 m 36 ls [.long t0]) := by
  obtain ⟨hx, hb, hr, hlk, hml, hown, hts, hK, hA⟩ := id C0
  intro H locs ls hw hl
  have ho := Option.some.inj h
  subst ho
  exact z_rtl C0 hw d_Op_value_36
set_option maxHeartbeats 4000000 in
set_option maxRecDepth 100000 in
theorem c_Op_value {l : Launch} {D : va_G} {ad : Nat → Nat} {ca : Nat → ClassId} (q : z_Sg) (o : Int64) (h : f_Op_value q = some o) : z_cl l y_Op_value b_Op_value 1 (some .long) 2 46 D (z_Kt ca) (z_K ad ca q) (z_K ad ca q) [.ref (ad 6)] o := by
  refine z_cl_of (own := z_ROp) (by decide) rfl ?_
  intro p e s m below meth c A C0 hw
  obtain ⟨hx, hb, hr, hlk, hml, hown, hts, hK, hA⟩ := id C0
  generalize hH : s.heap = H at hw ⊢
  generalize hlo : ([] : List Loc) = locs at hw ⊢
  refine z_entry (lv := [(0, .ref (ad 6))]) (Nat.le_of_ble_eq_true rfl) rfl (fun ls hl => ?_)
  unfold f_Op_value at h
  refine lv_aload_n hx hb d_Op_value_0 rfl (lv_at hl 0 rfl) ?_
  refine gfK_6_code C0 hw fl_Op_15 d_Op_value_1 ?_
  refine gfK_5_mod C0 hw fl_Op_31 d_Op_value_4 ?_
  refine lv_iconst (v := (3 : Int32)) hx hb d_Op_value_7 (by decide) ?_
  refine lv_icmp_ne (tgt := 29) hx hb d_Op_value_8 (by decide) (fun c1 => ?_) (fun c1 => ?_)
  · have h := ok_f h c1
    refine lv_aload_n hx hb d_Op_value_29 rfl (lv_at hl 0 rfl) ?_
    refine gfK_6_span C0 hw fl_Op_19 d_Op_value_30 ?_
    obtain ⟨r2, er2, h⟩ := ok_b h
    refine z_vl (rest := []) C0 hw (c_Sp_value_7 q r2 er2) mw_Sp_value ml_Op_105 7 rfl ⟨Nat.le_of_ble_eq_true rfl, Nat.le_of_ble_eq_true rfl⟩ ⟨Nat.le_refl 0, Nat.le_refl 0⟩ rfl hl.1 rfl (Nat.le_of_ble_eq_true rfl) d_Op_value_33 (fun H locs hw => ?_)
    exact w_Op_value_36 o C0 q r2 h H locs ls hw (lv_sub hl [] rfl)
  · have h := ok_t h c1
    refine lv_aload_n hx hb d_Op_value_11 rfl (lv_at hl 0 rfl) ?_
    refine lv_aload_n hx hb d_Op_value_12 rfl (lv_at hl 0 rfl) ?_
    refine gfK_6_code C0 hw fl_Op_15 d_Op_value_13 ?_
    obtain ⟨r3, er3, h⟩ := ok_b h
    refine z_vi (rest := [.ref (ad 6)]) C0 hw (c_De_registerE q r3 er3) mw_De_registerE ml_Op_98 5 rfl ⟨Nat.le_of_ble_eq_true rfl, Nat.le_of_ble_eq_true rfl⟩ ⟨Nat.le_refl 0, Nat.le_refl 0⟩ rfl hl.1 rfl (Nat.le_of_ble_eq_true rfl) d_Op_value_16 (fun H locs hw => ?_)
    refine lv_aload_n hx hb d_Op_value_19 rfl (lv_at hl 0 rfl) ?_
    refine gfK_6_bytes C0 hw fl_Op_27 d_Op_value_20 ?_
    obtain ⟨r4, er4, h⟩ := ok_b h
    refine z_vl (rest := []) C0 hw (c_Op_part r3 (z_gI q 15) q r4 er4) mw_Op_part ml_Op_101 6 rfl ⟨Nat.le_of_ble_eq_true rfl, Nat.le_of_ble_eq_true rfl⟩ ⟨Nat.le_refl 0, Nat.le_refl 0⟩ rfl hl.1 rfl (Nat.le_of_ble_eq_true rfl) d_Op_value_23 (fun H locs hw => ?_)
    refine lv_goto (tgt := 36) hx hb d_Op_value_26 (by decide) ?_
    exact w_Op_value_36 o C0 q r4 h H locs ls hw (lv_sub hl [] rfl)
def f_Fl_enterSystem (q : z_Sg) : Option (Int32 × z_Sg) :=
  if z_bad (1 : Int32) 16 then none else (z_nm (z_sM q 0 (1 : Int32).toNatClampNeg (z_gL q 10)) (fun q2 => if z_bad (11 : Int32) 16 then none else (z_nm (z_sM q2 0 (11 : Int32).toNatClampNeg (((z_gI q2 0) ||| (2 : Int32)).toInt64)) (fun q4 => z_nm (z_sL q4 10 (z_gL q4 2)) (fun q5 => z_nm (z_sI q5 0 ((z_gI q5 0) &&& (((z_gL q5 3).toInt32) ^^^ (-1 : Int32)))) (fun q6 => z_nm (z_sI q6 2 (0 : Int32)) (fun q7 => some ((-1 : Int32), q7))))))))
set_option maxHeartbeats 4000000 in
set_option maxRecDepth 100000 in
theorem c_Fl_enterSystem {l : Launch} {D : va_G} {ad : Nat → Nat} {ca : Nat → ClassId} (q : z_Sg) (o : (Int32 × z_Sg)) (h : f_Fl_enterSystem q = some o) : z_ci l y_Fl_enterSystem b_Fl_enterSystem 1 (some .int) 0 0 D (z_Kt ca) (z_K ad ca q) (z_K ad ca o.2) [.ref (ad 11)] o.1 := by
  refine z_ci_of (own := z_RFl) (by decide) rfl ?_
  intro p e s m below meth c A C0 hw
  obtain ⟨hx, hb, hr, hlk, hml, hown, hts, hK, hA⟩ := id C0
  generalize hH : s.heap = H at hw ⊢
  generalize hlo : ([] : List Loc) = locs at hw ⊢
  refine z_entry (lv := [(0, .ref (ad 11))]) (Nat.le_of_ble_eq_true rfl) rfl (fun ls hl => ?_)
  unfold f_Fl_enterSystem at h
  refine lv_aload_n hx hb d_Fl_enterSystem_0 rfl (lv_at hl 0 rfl) ?_
  refine gfK_11_state C0 hw fl_Fl_9 d_Fl_enterSystem_1 ?_
  refine gfK_1_registers C0 hw fl_Fl_101 d_Fl_enterSystem_4 ?_
  refine lv_iconst (v := (1 : Int32)) hx hb d_Fl_enterSystem_7 (by decide) ?_
  refine lv_aload_n hx hb d_Fl_enterSystem_8 rfl (lv_at hl 0 rfl) ?_
  refine gfK_11_code C0 hw fl_Fl_15 d_Fl_enterSystem_9 ?_
  refine gfK_5_onward C0 hw fl_Fl_64 d_Fl_enterSystem_12 ?_
  obtain ⟨b1, h⟩ := ok_g h
  refine asK_2 C0 hw b1 d_Fl_enterSystem_15 (fun H locs hw => ?_)
  obtain ⟨q2, eq2, h⟩ := ok_n h
  rw [← eq2] at hw
  refine lv_aload_n hx hb d_Fl_enterSystem_16 rfl (lv_at hl 0 rfl) ?_
  refine gfK_11_state C0 hw fl_Fl_9 d_Fl_enterSystem_17 ?_
  refine gfK_1_registers C0 hw fl_Fl_101 d_Fl_enterSystem_20 ?_
  refine lv_bipush (v := (11 : Int32)) hx hb d_Fl_enterSystem_23 (by decide) ?_
  refine lv_aload_n hx hb d_Fl_enterSystem_25 rfl (lv_at hl 0 rfl) ?_
  refine gfK_11_state C0 hw fl_Fl_9 d_Fl_enterSystem_26 ?_
  refine gfK_1_flags C0 hw fl_Fl_84 d_Fl_enterSystem_29 ?_
  refine lv_iconst (v := (2 : Int32)) hx hb d_Fl_enterSystem_32 (by decide) ?_
  refine lv_ior hx hb d_Fl_enterSystem_33 ?_
  refine lv_i2l hx hb d_Fl_enterSystem_34 rfl ?_
  obtain ⟨b3, h⟩ := ok_g h
  refine asK_2 C0 hw b3 d_Fl_enterSystem_35 (fun H locs hw => ?_)
  obtain ⟨q4, eq4, h⟩ := ok_n h
  rw [← eq4] at hw
  refine lv_aload_n hx hb d_Fl_enterSystem_36 rfl (lv_at hl 0 rfl) ?_
  refine gfK_11_code C0 hw fl_Fl_15 d_Fl_enterSystem_37 ?_
  refine lv_aload_n hx hb d_Fl_enterSystem_40 rfl (lv_at hl 0 rfl) ?_
  refine gfK_11_state C0 hw fl_Fl_9 d_Fl_enterSystem_41 ?_
  refine gfK_1_entry C0 hw fl_Fl_158 d_Fl_enterSystem_44 ?_
  refine pfK_5_onward C0 hw fl_Fl_64 d_Fl_enterSystem_47 (fun H locs hw => ?_)
  obtain ⟨q5, eq5, h⟩ := ok_n h
  rw [← eq5] at hw
  refine lv_aload_n hx hb d_Fl_enterSystem_50 rfl (lv_at hl 0 rfl) ?_
  refine gfK_11_state C0 hw fl_Fl_9 d_Fl_enterSystem_51 ?_
  refine lv_dup hx hb d_Fl_enterSystem_54 rfl ?_
  refine gfK_1_flags C0 hw fl_Fl_84 d_Fl_enterSystem_55 ?_
  refine lv_aload_n hx hb d_Fl_enterSystem_58 rfl (lv_at hl 0 rfl) ?_
  refine gfK_11_state C0 hw fl_Fl_9 d_Fl_enterSystem_59 ?_
  refine gfK_1_mask C0 hw fl_Fl_161 d_Fl_enterSystem_62 ?_
  refine lv_l2i hx hb d_Fl_enterSystem_65 rfl ?_
  refine lv_iconst (v := (-1 : Int32)) hx hb d_Fl_enterSystem_66 (by decide) ?_
  refine lv_ixor hx hb d_Fl_enterSystem_67 ?_
  refine lv_iand hx hb d_Fl_enterSystem_68 ?_
  refine pfK_1_flags C0 hw fl_Fl_84 d_Fl_enterSystem_69 (fun H locs hw => ?_)
  obtain ⟨q6, eq6, h⟩ := ok_n h
  rw [← eq6] at hw
  refine lv_aload_n hx hb d_Fl_enterSystem_72 rfl (lv_at hl 0 rfl) ?_
  refine gfK_11_state C0 hw fl_Fl_9 d_Fl_enterSystem_73 ?_
  refine lv_iconst (v := (0 : Int32)) hx hb d_Fl_enterSystem_76 (by decide) ?_
  refine pfK_1_user C0 hw (Or.inl rfl) fl_Fl_164 d_Fl_enterSystem_77 (fun H locs hw => ?_)
  obtain ⟨q7, eq7, h⟩ := ok_n h
  rw [← eq7] at hw
  refine lv_iconst (v := (-1 : Int32)) hx hb d_Fl_enterSystem_80 (by decide) ?_
  have ho := Option.some.inj h
  subst ho
  exact z_rti C0 hw d_Fl_enterSystem_81
def k_Fl_leaveSystem_64 (x1 : Int32) (q : z_Sg) : Option (Int32 × z_Sg) :=
  some (x1, q)
def k_Fl_leaveSystem_28 (t0 : Int32) (q : z_Sg) : Option (Int32 × z_Sg) :=
  if t0 = (-1 : Int32) then (if z_bad (11 : Int32) 16 then none else (z_nm (z_sI q 0 (((z_gM q 0 (11 : Int32).toNatClampNeg).toInt32) &&& (3285 : Int32))) (fun q6 => z_nm (z_sI q6 2 (1 : Int32)) (fun q7 => k_Fl_leaveSystem_64 t0 q7)))) else (k_Fl_leaveSystem_64 t0 q)
def f_Fl_leaveSystem (q : z_Sg) : Option (Int32 × z_Sg) :=
  if (z_gI q 2) = 0 then (if z_bad (1 : Int32) 16 then none else ((f_Fl_jump (z_gM q 0 (1 : Int32).toNatClampNeg) q).bind (fun r3 => k_Fl_leaveSystem_28 r3.1 r3.2))) else (k_Fl_leaveSystem_28 (13 : Int32) q)
set_option maxHeartbeats 4000000 in
set_option maxRecDepth 100000 in
theorem w_Fl_leaveSystem_64 {p : Program} {l : Launch} {e : Env} {s : State} {m : MethodId} {args : Array Value} {below : List Frame} {meth : Method} {c : Code} {D : va_G} {A : Nat → Prop} {ad : Nat → Nat} {ca : Nat → ClassId} (o : (Int32 × z_Sg)) (C0 : z_cx z_RFl b_Fl_leaveSystem 2 (some .int) D (z_Kt ca) A p s m args meth c) (q : z_Sg) (x1 : Int32) (h : k_Fl_leaveSystem_64 x1 q = some o) : ∀ (H : Heap) (locs : List Loc) (ls : Array Slot), z_wd D (z_K ad ca q) A s H locs → lv_has ls 2 [(1, .int x1)] → W p l e (z_rm 2 45) s m args below meth c H locs 0 0 (z_qi below D (z_Kt ca) (z_K ad ca o.2) A s args o.1) (F0 m 64 ls []) := by
  obtain ⟨hx, hb, hr, hlk, hml, hown, hts, hK, hA⟩ := id C0
  intro H locs ls hw hl
  refine lv_iload_n hx hb d_Fl_leaveSystem_64 rfl (lv_at hl 0 rfl) ?_
  have ho := Option.some.inj h
  subst ho
  exact z_rti C0 hw d_Fl_leaveSystem_65
set_option maxHeartbeats 4000000 in
set_option maxRecDepth 100000 in
theorem w_Fl_leaveSystem_28 {p : Program} {l : Launch} {e : Env} {s : State} {m : MethodId} {args : Array Value} {below : List Frame} {meth : Method} {c : Code} {D : va_G} {A : Nat → Prop} {ad : Nat → Nat} {ca : Nat → ClassId} (o : (Int32 × z_Sg)) (C0 : z_cx z_RFl b_Fl_leaveSystem 2 (some .int) D (z_Kt ca) A p s m args meth c) (q : z_Sg) (t0 : Int32) (h : k_Fl_leaveSystem_28 t0 q = some o) : ∀ (H : Heap) (locs : List Loc) (ls : Array Slot), z_wd D (z_K ad ca q) A s H locs → lv_has ls 2 [(0, .ref (ad 11))] → W p l e (z_rm 2 45) s m args below meth c H locs 0 0 (z_qi below D (z_Kt ca) (z_K ad ca o.2) A s args o.1) (F0 m 28 ls [.int t0]) := by
  obtain ⟨hx, hb, hr, hlk, hml, hown, hts, hK, hA⟩ := id C0
  intro H locs ls hw hl
  refine lv_istore_n (lv' := [(1, .int t0), (0, .ref (ad 11))]) hx hb d_Fl_leaveSystem_28 rfl hl (by decide) rfl (fun ls hl => ?_)
  refine lv_iload_n hx hb d_Fl_leaveSystem_29 rfl (lv_at hl 0 rfl) ?_
  refine lv_iconst (v := (-1 : Int32)) hx hb d_Fl_leaveSystem_30 (by decide) ?_
  refine lv_icmp_ne (tgt := 64) hx hb d_Fl_leaveSystem_31 (by decide) (fun c4 => ?_) (fun c4 => ?_)
  · have h := ok_f h c4
    exact w_Fl_leaveSystem_64 o C0 q t0 h H locs ls hw (lv_sub hl [0] rfl)
  · have h := ok_t h c4
    refine lv_aload_n hx hb d_Fl_leaveSystem_34 rfl (lv_at hl 1 rfl) ?_
    refine gfK_11_state C0 hw fl_Fl_9 d_Fl_leaveSystem_35 ?_
    refine lv_aload_n hx hb d_Fl_leaveSystem_38 rfl (lv_at hl 1 rfl) ?_
    refine gfK_11_state C0 hw fl_Fl_9 d_Fl_leaveSystem_39 ?_
    refine gfK_1_registers C0 hw fl_Fl_101 d_Fl_leaveSystem_42 ?_
    refine lv_bipush (v := (11 : Int32)) hx hb d_Fl_leaveSystem_45 (by decide) ?_
    obtain ⟨b5, h⟩ := ok_g h
    refine alK_2 C0 hw b5 d_Fl_leaveSystem_47 ?_
    refine lv_l2i hx hb d_Fl_leaveSystem_48 rfl ?_
    refine lv_sipush (v := (3285 : Int32)) hx hb d_Fl_leaveSystem_49 (by decide) ?_
    refine lv_iand hx hb d_Fl_leaveSystem_52 ?_
    refine pfK_1_flags C0 hw fl_Fl_84 d_Fl_leaveSystem_53 (fun H locs hw => ?_)
    obtain ⟨q6, eq6, h⟩ := ok_n h
    rw [← eq6] at hw
    refine lv_aload_n hx hb d_Fl_leaveSystem_56 rfl (lv_at hl 1 rfl) ?_
    refine gfK_11_state C0 hw fl_Fl_9 d_Fl_leaveSystem_57 ?_
    refine lv_iconst (v := (1 : Int32)) hx hb d_Fl_leaveSystem_60 (by decide) ?_
    refine pfK_1_user C0 hw (Or.inr rfl) fl_Fl_164 d_Fl_leaveSystem_61 (fun H locs hw => ?_)
    obtain ⟨q7, eq7, h⟩ := ok_n h
    rw [← eq7] at hw
    exact w_Fl_leaveSystem_64 o C0 q7 t0 h H locs ls hw (lv_sub hl [0] rfl)
set_option maxHeartbeats 4000000 in
set_option maxRecDepth 100000 in
theorem c_Fl_leaveSystem {l : Launch} {D : va_G} {ad : Nat → Nat} {ca : Nat → ClassId} (q : z_Sg) (o : (Int32 × z_Sg)) (h : f_Fl_leaveSystem q = some o) : z_ci l y_Fl_leaveSystem b_Fl_leaveSystem 2 (some .int) 2 45 D (z_Kt ca) (z_K ad ca q) (z_K ad ca o.2) [.ref (ad 11)] o.1 := by
  refine z_ci_of (own := z_RFl) (by decide) rfl ?_
  intro p e s m below meth c A C0 hw
  obtain ⟨hx, hb, hr, hlk, hml, hown, hts, hK, hA⟩ := id C0
  generalize hH : s.heap = H at hw ⊢
  generalize hlo : ([] : List Loc) = locs at hw ⊢
  refine z_entry (lv := [(0, .ref (ad 11))]) (Nat.le_of_ble_eq_true rfl) rfl (fun ls hl => ?_)
  unfold f_Fl_leaveSystem at h
  refine lv_aload_n hx hb d_Fl_leaveSystem_0 rfl (lv_at hl 0 rfl) ?_
  refine gfK_11_state C0 hw fl_Fl_9 d_Fl_leaveSystem_1 ?_
  refine gfK_1_user C0 hw fl_Fl_164 d_Fl_leaveSystem_4 ?_
  refine lv_if_eq (tgt := 15) hx hb d_Fl_leaveSystem_7 (by decide) (fun c1 => ?_) (fun c1 => ?_)
  · have h := ok_t h c1
    refine lv_aload_n hx hb d_Fl_leaveSystem_15 rfl (lv_at hl 0 rfl) ?_
    refine lv_aload_n hx hb d_Fl_leaveSystem_16 rfl (lv_at hl 0 rfl) ?_
    refine gfK_11_state C0 hw fl_Fl_9 d_Fl_leaveSystem_17 ?_
    refine gfK_1_registers C0 hw fl_Fl_101 d_Fl_leaveSystem_20 ?_
    refine lv_iconst (v := (1 : Int32)) hx hb d_Fl_leaveSystem_23 (by decide) ?_
    obtain ⟨b2, h⟩ := ok_g h
    refine alK_2 C0 hw b2 d_Fl_leaveSystem_24 ?_
    obtain ⟨r3, er3, h⟩ := ok_b h
    refine z_vi (rest := []) C0 hw (c_Fl_jump (z_gM q 0 (1 : Int32).toNatClampNeg) q r3 er3) mw_Fl_jump ml_Fl_71 11 rfl ⟨Nat.le_of_ble_eq_true rfl, Nat.le_of_ble_eq_true rfl⟩ ⟨Nat.le_refl 0, Nat.le_refl 0⟩ rfl hl.1 rfl (Nat.le_of_ble_eq_true rfl) d_Fl_leaveSystem_25 (fun H locs hw => ?_)
    exact w_Fl_leaveSystem_28 o C0 r3.2 r3.1 h H locs ls hw (lv_sub hl [0] rfl)
  · have h := ok_f h c1
    refine lv_bipush (v := (13 : Int32)) hx hb d_Fl_leaveSystem_10 (by decide) ?_
    refine lv_goto (tgt := 28) hx hb d_Fl_leaveSystem_12 (by decide) ?_
    exact w_Fl_leaveSystem_28 o C0 q (13 : Int32) h H locs ls hw (lv_sub hl [0] rfl)
def k_Fl_execute_148 (t0 : Int32) (q : z_Sg) : Option (Int32 × z_Sg) :=
  some (t0, q)
def k_Fl_execute_108 (q : z_Sg) : Option (Int32 × z_Sg) :=
  (f_Ar_holds (z_gI q 11) q).bind (fun r10 => if r10 = 0 then (k_Fl_execute_148 (-1 : Int32) q) else ((f_Fl_jump ((z_gL q 10) + (z_gL q 9)) q).bind (fun r12 => k_Fl_execute_148 r12.1 r12.2)))
def k_Fl_execute_312 (q : z_Sg) : Option (Int32 × z_Sg) :=
  (f_De_sizeOnStack q).bind (fun r17 => (f_Fl_push (z_gL q 9) r17 q).bind (fun r18 => some (r18.1, r18.2)))
def k_Fl_execute_360 (t0 : Int32) (q : z_Sg) : Option (Int32 × z_Sg) :=
  some (t0, q)
def k_Fl_execute_388 (q : z_Sg) : Option (Int32 × z_Sg) :=
  (f_Fl_comeBack q).bind (fun r31 => some (r31.1, r31.2))
def k_Fl_execute_398 (q : z_Sg) : Option (Int32 × z_Sg) :=
  (f_Fl_countDown q).bind (fun r36 => some (r36.1, r36.2))
def k_Fl_execute_440 (t0 : Int32) (q : z_Sg) : Option (Int32 × z_Sg) :=
  some (t0, q)
def k_Fl_execute_461 (q : z_Sg) : Option (Int32 × z_Sg) :=
  (f_Fl_jump ((z_gL q 10) + (z_gL q 9)) q).bind (fun r46 => some (r46.1, r46.2))
def k_Fl_execute_566 (t0 : Int32) (q : z_Sg) : Option (Int32 × z_Sg) :=
  some (t0, q)
def f_Fl_execute (q : z_Sg) : Option (Int32 × z_Sg) :=
  if ((z_gI q 11) &&& (-8 : Int32)) = (80 : Int32) then ((f_De_registerO q).bind (fun r2 => (f_Op_part r2 (8 : Int32) q).bind (fun r3 => (f_De_sizeOnStack q).bind (fun r4 => (f_Fl_push r3 r4 q).bind (fun r5 => some (r5.1, r5.2)))))) else (if ((z_gI q 11) &&& (-8 : Int32)) = (88 : Int32) then ((f_De_registerO q).bind (fun r7 => (f_Fl_popRegister r7 q).bind (fun r8 => some (r8.1, r8.2)))) else (if ((z_gI q 11) &&& (-8 : Int32)) = (112 : Int32) then (k_Fl_execute_108 q) else (if ((z_gI q 11) &&& (-8 : Int32)) = (120 : Int32) then (k_Fl_execute_108 q) else (if ((z_gI q 11) &&& (-8 : Int32)) = (384 : Int32) then (k_Fl_execute_108 q) else (if ((z_gI q 11) &&& (-8 : Int32)) = (392 : Int32) then (k_Fl_execute_108 q) else (if (z_gI q 11) = (104 : Int32) then (k_Fl_execute_312 q) else (if (z_gI q 11) = (106 : Int32) then (k_Fl_execute_312 q) else (if (z_gI q 11) = (143 : Int32) then (if (z_gI q 12) = (3 : Int32) then ((f_De_registerE q).bind (fun r23 => (f_Fl_popRegister r23 q).bind (fun r24 => k_Fl_execute_360 r24.1 r24.2))) else ((f_Fl_popMemory q).bind (fun r22 => k_Fl_execute_360 r22.1 r22.2))) else (if (z_gI q 11) = (156 : Int32) then ((f_De_sizeOnStack q).bind (fun r26 => (f_Fl_push (((z_gI q 0) ||| (2 : Int32)).toInt64) r26 q).bind (fun r27 => some (r27.1, r27.2)))) else (if (z_gI q 11) = (157 : Int32) then ((f_Fl_popFlags q).bind (fun r29 => some (r29.1, r29.2))) else (if (z_gI q 11) = (194 : Int32) then (k_Fl_execute_388 q) else (if (z_gI q 11) = (195 : Int32) then (k_Fl_execute_388 q) else (if (z_gI q 11) = (201 : Int32) then ((f_Fl_leave q).bind (fun r34 => some (r34.1, r34.2))) else (if (z_gI q 11) = (224 : Int32) then (k_Fl_execute_398 q) else (if (z_gI q 11) = (225 : Int32) then (k_Fl_execute_398 q) else (if (z_gI q 11) = (226 : Int32) then (k_Fl_execute_398 q) else (if (z_gI q 11) = (227 : Int32) then (if z_bad (1 : Int32) 16 then none else (if (z_gM q 0 (1 : Int32).toNatClampNeg) = (0 : Int64) then ((f_Fl_jump ((z_gL q 10) + (z_gL q 9)) q).bind (fun r42 => k_Fl_execute_440 r42.1 r42.2)) else (k_Fl_execute_440 (-1 : Int32) q))) else (if (z_gI q 11) = (232 : Int32) then ((f_Fl_call ((z_gL q 10) + (z_gL q 9)) q).bind (fun r44 => some (r44.1, r44.2))) else (if (z_gI q 11) = (233 : Int32) then (k_Fl_execute_461 q) else (if (z_gI q 11) = (235 : Int32) then (k_Fl_execute_461 q) else (if (z_gI q 11) = (255 : Int32) then (if (z_gI q 13) = (2 : Int32) then ((f_Op_value q).bind (fun r57 => (f_Fl_call r57 q).bind (fun r58 => k_Fl_execute_566 r58.1 r58.2))) else (if (z_gI q 13) = (4 : Int32) then ((f_Op_value q).bind (fun r55 => (f_Fl_jump r55 q).bind (fun r56 => k_Fl_execute_566 r56.1 r56.2))) else (if (z_gI q 13) = (6 : Int32) then ((f_Op_value q).bind (fun r52 => (f_De_sizeOnStack q).bind (fun r53 => (f_Fl_push r52 r53 q).bind (fun r54 => k_Fl_execute_566 r54.1 r54.2)))) else (k_Fl_execute_566 (-2 : Int32) q)))) else (if (z_gI q 11) = (261 : Int32) then ((f_Fl_enterSystem q).bind (fun r60 => some (r60.1, r60.2))) else (if (z_gI q 11) = (263 : Int32) then ((f_Fl_leaveSystem q).bind (fun r62 => some (r62.1, r62.2))) else (some ((-2 : Int32), q)))))))))))))))))))))))))
set_option maxHeartbeats 4000000 in
set_option maxRecDepth 100000 in
theorem w_Fl_execute_148 {p : Program} {l : Launch} {e : Env} {s : State} {m : MethodId} {args : Array Value} {below : List Frame} {meth : Method} {c : Code} {D : va_G} {A : Nat → Prop} {ad : Nat → Nat} {ca : Nat → ClassId} (o : (Int32 × z_Sg)) (C0 : z_cx z_RFl b_Fl_execute 1 (some .int) D (z_Kt ca) A p s m args meth c) (q : z_Sg) (t0 : Int32) (h : k_Fl_execute_148 t0 q = some o) : ∀ (H : Heap) (locs : List Loc) (ls : Array Slot), z_wd D (z_K ad ca q) A s H locs → lv_has ls 1 [] → W p l e (z_rm 5 138) s m args below meth c H locs 0 0 (z_qi below D (z_Kt ca) (z_K ad ca o.2) A s args o.1) (F0 m 148 ls [.int t0]) := by
  obtain ⟨hx, hb, hr, hlk, hml, hown, hts, hK, hA⟩ := id C0
  intro H locs ls hw hl
  have ho := Option.some.inj h
  subst ho
  exact z_rti C0 hw d_Fl_execute_148
set_option maxHeartbeats 4000000 in
set_option maxRecDepth 100000 in
theorem w_Fl_execute_108 {p : Program} {l : Launch} {e : Env} {s : State} {m : MethodId} {args : Array Value} {below : List Frame} {meth : Method} {c : Code} {D : va_G} {A : Nat → Prop} {ad : Nat → Nat} {ca : Nat → ClassId} (o : (Int32 × z_Sg)) (C0 : z_cx z_RFl b_Fl_execute 1 (some .int) D (z_Kt ca) A p s m args meth c) (q : z_Sg) (h : k_Fl_execute_108 q = some o) : ∀ (H : Heap) (locs : List Loc) (ls : Array Slot), z_wd D (z_K ad ca q) A s H locs → lv_has ls 1 [(0, .ref (ad 11))] → W p l e (z_rm 5 138) s m args below meth c H locs 0 0 (z_qi below D (z_Kt ca) (z_K ad ca o.2) A s args o.1) (F0 m 108 ls []) := by
  obtain ⟨hx, hb, hr, hlk, hml, hown, hts, hK, hA⟩ := id C0
  intro H locs ls hw hl
  refine lv_aload_n hx hb d_Fl_execute_108 rfl (lv_at hl 0 rfl) ?_
  refine gfK_11_arithmetic C0 hw fl_Fl_23 d_Fl_execute_109 ?_
  refine lv_aload_n hx hb d_Fl_execute_112 rfl (lv_at hl 0 rfl) ?_
  refine gfK_11_code C0 hw fl_Fl_15 d_Fl_execute_113 ?_
  refine gfK_5_opcode C0 hw fl_Fl_31 d_Fl_execute_116 ?_
  obtain ⟨r10, er10, h⟩ := ok_b h
  refine z_vi (rest := []) C0 hw (c_Ar_holds (z_gI q 11) q r10 er10) mw_Ar_holds ml_Fl_58 9 rfl ⟨Nat.le_of_ble_eq_true rfl, Nat.le_of_ble_eq_true rfl⟩ ⟨Nat.le_refl 0, Nat.le_refl 0⟩ rfl hl.1 rfl (Nat.le_of_ble_eq_true rfl) d_Fl_execute_119 (fun H locs hw => ?_)
  refine lv_if_eq (tgt := 147) hx hb d_Fl_execute_122 (by decide) (fun c11 => ?_) (fun c11 => ?_)
  · have h := ok_t h c11
    refine lv_iconst (v := (-1 : Int32)) hx hb d_Fl_execute_147 (by decide) ?_
    exact w_Fl_execute_148 o C0 q (-1 : Int32) h H locs ls hw (lv_sub hl [] rfl)
  · have h := ok_f h c11
    refine lv_aload_n hx hb d_Fl_execute_125 rfl (lv_at hl 0 rfl) ?_
    refine lv_aload_n hx hb d_Fl_execute_126 rfl (lv_at hl 0 rfl) ?_
    refine gfK_11_code C0 hw fl_Fl_15 d_Fl_execute_127 ?_
    refine gfK_5_onward C0 hw fl_Fl_64 d_Fl_execute_130 ?_
    refine lv_aload_n hx hb d_Fl_execute_133 rfl (lv_at hl 0 rfl) ?_
    refine gfK_11_code C0 hw fl_Fl_15 d_Fl_execute_134 ?_
    refine gfK_5_number C0 hw fl_Fl_68 d_Fl_execute_137 ?_
    refine lv_ladd hx hb d_Fl_execute_140 ?_
    obtain ⟨r12, er12, h⟩ := ok_b h
    refine z_vi (rest := []) C0 hw (c_Fl_jump ((z_gL q 10) + (z_gL q 9)) q r12 er12) mw_Fl_jump ml_Fl_71 11 rfl ⟨Nat.le_of_ble_eq_true rfl, Nat.le_of_ble_eq_true rfl⟩ ⟨Nat.le_refl 0, Nat.le_refl 0⟩ rfl hl.1 rfl (Nat.le_of_ble_eq_true rfl) d_Fl_execute_141 (fun H locs hw => ?_)
    refine lv_goto (tgt := 148) hx hb d_Fl_execute_144 (by decide) ?_
    exact w_Fl_execute_148 o C0 r12.2 r12.1 h H locs ls hw (lv_sub hl [] rfl)
set_option maxHeartbeats 4000000 in
set_option maxRecDepth 100000 in
theorem w_Fl_execute_312 {p : Program} {l : Launch} {e : Env} {s : State} {m : MethodId} {args : Array Value} {below : List Frame} {meth : Method} {c : Code} {D : va_G} {A : Nat → Prop} {ad : Nat → Nat} {ca : Nat → ClassId} (o : (Int32 × z_Sg)) (C0 : z_cx z_RFl b_Fl_execute 1 (some .int) D (z_Kt ca) A p s m args meth c) (q : z_Sg) (h : k_Fl_execute_312 q = some o) : ∀ (H : Heap) (locs : List Loc) (ls : Array Slot), z_wd D (z_K ad ca q) A s H locs → lv_has ls 1 [(0, .ref (ad 11))] → W p l e (z_rm 5 138) s m args below meth c H locs 0 0 (z_qi below D (z_Kt ca) (z_K ad ca o.2) A s args o.1) (F0 m 312 ls []) := by
  obtain ⟨hx, hb, hr, hlk, hml, hown, hts, hK, hA⟩ := id C0
  intro H locs ls hw hl
  refine lv_aload_n hx hb d_Fl_execute_312 rfl (lv_at hl 0 rfl) ?_
  refine lv_aload_n hx hb d_Fl_execute_313 rfl (lv_at hl 0 rfl) ?_
  refine gfK_11_code C0 hw fl_Fl_15 d_Fl_execute_314 ?_
  refine gfK_5_number C0 hw fl_Fl_68 d_Fl_execute_317 ?_
  refine lv_aload_n hx hb d_Fl_execute_320 rfl (lv_at hl 0 rfl) ?_
  refine gfK_11_code C0 hw fl_Fl_15 d_Fl_execute_321 ?_
  obtain ⟨r17, er17, h⟩ := ok_b h
  refine z_vi (rest := [.long (z_gL q 9), .ref (ad 11)]) C0 hw (c_De_sizeOnStack q r17 er17) mw_De_sizeOnStack ml_Fl_47 5 rfl ⟨Nat.le_of_ble_eq_true rfl, Nat.le_of_ble_eq_true rfl⟩ ⟨Nat.le_refl 0, Nat.le_refl 0⟩ rfl hl.1 rfl (Nat.le_of_ble_eq_true rfl) d_Fl_execute_324 (fun H locs hw => ?_)
  obtain ⟨r18, er18, h⟩ := ok_b h
  refine z_vi (rest := []) C0 hw (c_Fl_push (z_gL q 9) r17 q r18 er18) mw_Fl_push ml_Fl_50 11 rfl ⟨Nat.le_of_ble_eq_true rfl, Nat.le_of_ble_eq_true rfl⟩ ⟨Nat.le_refl 0, Nat.le_refl 0⟩ rfl hl.1 rfl (Nat.le_of_ble_eq_true rfl) d_Fl_execute_327 (fun H locs hw => ?_)
  have ho := Option.some.inj h
  subst ho
  exact z_rti C0 hw d_Fl_execute_330
set_option maxHeartbeats 4000000 in
set_option maxRecDepth 100000 in
theorem w_Fl_execute_360 {p : Program} {l : Launch} {e : Env} {s : State} {m : MethodId} {args : Array Value} {below : List Frame} {meth : Method} {c : Code} {D : va_G} {A : Nat → Prop} {ad : Nat → Nat} {ca : Nat → ClassId} (o : (Int32 × z_Sg)) (C0 : z_cx z_RFl b_Fl_execute 1 (some .int) D (z_Kt ca) A p s m args meth c) (q : z_Sg) (t0 : Int32) (h : k_Fl_execute_360 t0 q = some o) : ∀ (H : Heap) (locs : List Loc) (ls : Array Slot), z_wd D (z_K ad ca q) A s H locs → lv_has ls 1 [] → W p l e (z_rm 5 138) s m args below meth c H locs 0 0 (z_qi below D (z_Kt ca) (z_K ad ca o.2) A s args o.1) (F0 m 360 ls [.int t0]) := by
  obtain ⟨hx, hb, hr, hlk, hml, hown, hts, hK, hA⟩ := id C0
  intro H locs ls hw hl
  have ho := Option.some.inj h
  subst ho
  exact z_rti C0 hw d_Fl_execute_360
set_option maxHeartbeats 4000000 in
set_option maxRecDepth 100000 in
theorem w_Fl_execute_388 {p : Program} {l : Launch} {e : Env} {s : State} {m : MethodId} {args : Array Value} {below : List Frame} {meth : Method} {c : Code} {D : va_G} {A : Nat → Prop} {ad : Nat → Nat} {ca : Nat → ClassId} (o : (Int32 × z_Sg)) (C0 : z_cx z_RFl b_Fl_execute 1 (some .int) D (z_Kt ca) A p s m args meth c) (q : z_Sg) (h : k_Fl_execute_388 q = some o) : ∀ (H : Heap) (locs : List Loc) (ls : Array Slot), z_wd D (z_K ad ca q) A s H locs → lv_has ls 1 [(0, .ref (ad 11))] → W p l e (z_rm 5 138) s m args below meth c H locs 0 0 (z_qi below D (z_Kt ca) (z_K ad ca o.2) A s args o.1) (F0 m 388 ls []) := by
  obtain ⟨hx, hb, hr, hlk, hml, hown, hts, hK, hA⟩ := id C0
  intro H locs ls hw hl
  refine lv_aload_n hx hb d_Fl_execute_388 rfl (lv_at hl 0 rfl) ?_
  obtain ⟨r31, er31, h⟩ := ok_b h
  refine z_vi (rest := []) C0 hw (c_Fl_comeBack q r31 er31) mw_Fl_comeBack ml_Fl_92 11 rfl ⟨Nat.le_of_ble_eq_true rfl, Nat.le_of_ble_eq_true rfl⟩ ⟨Nat.le_refl 0, Nat.le_refl 0⟩ rfl hl.1 rfl (Nat.le_of_ble_eq_true rfl) d_Fl_execute_389 (fun H locs hw => ?_)
  have ho := Option.some.inj h
  subst ho
  exact z_rti C0 hw d_Fl_execute_392
set_option maxHeartbeats 4000000 in
set_option maxRecDepth 100000 in
theorem w_Fl_execute_398 {p : Program} {l : Launch} {e : Env} {s : State} {m : MethodId} {args : Array Value} {below : List Frame} {meth : Method} {c : Code} {D : va_G} {A : Nat → Prop} {ad : Nat → Nat} {ca : Nat → ClassId} (o : (Int32 × z_Sg)) (C0 : z_cx z_RFl b_Fl_execute 1 (some .int) D (z_Kt ca) A p s m args meth c) (q : z_Sg) (h : k_Fl_execute_398 q = some o) : ∀ (H : Heap) (locs : List Loc) (ls : Array Slot), z_wd D (z_K ad ca q) A s H locs → lv_has ls 1 [(0, .ref (ad 11))] → W p l e (z_rm 5 138) s m args below meth c H locs 0 0 (z_qi below D (z_Kt ca) (z_K ad ca o.2) A s args o.1) (F0 m 398 ls []) := by
  obtain ⟨hx, hb, hr, hlk, hml, hown, hts, hK, hA⟩ := id C0
  intro H locs ls hw hl
  refine lv_aload_n hx hb d_Fl_execute_398 rfl (lv_at hl 0 rfl) ?_
  obtain ⟨r36, er36, h⟩ := ok_b h
  refine z_vi (rest := []) C0 hw (c_Fl_countDown q r36 er36) mw_Fl_countDown ml_Fl_98 11 rfl ⟨Nat.le_of_ble_eq_true rfl, Nat.le_of_ble_eq_true rfl⟩ ⟨Nat.le_refl 0, Nat.le_refl 0⟩ rfl hl.1 rfl (Nat.le_of_ble_eq_true rfl) d_Fl_execute_399 (fun H locs hw => ?_)
  have ho := Option.some.inj h
  subst ho
  exact z_rti C0 hw d_Fl_execute_402
set_option maxHeartbeats 4000000 in
set_option maxRecDepth 100000 in
theorem w_Fl_execute_440 {p : Program} {l : Launch} {e : Env} {s : State} {m : MethodId} {args : Array Value} {below : List Frame} {meth : Method} {c : Code} {D : va_G} {A : Nat → Prop} {ad : Nat → Nat} {ca : Nat → ClassId} (o : (Int32 × z_Sg)) (C0 : z_cx z_RFl b_Fl_execute 1 (some .int) D (z_Kt ca) A p s m args meth c) (q : z_Sg) (t0 : Int32) (h : k_Fl_execute_440 t0 q = some o) : ∀ (H : Heap) (locs : List Loc) (ls : Array Slot), z_wd D (z_K ad ca q) A s H locs → lv_has ls 1 [] → W p l e (z_rm 5 138) s m args below meth c H locs 0 0 (z_qi below D (z_Kt ca) (z_K ad ca o.2) A s args o.1) (F0 m 440 ls [.int t0]) := by
  obtain ⟨hx, hb, hr, hlk, hml, hown, hts, hK, hA⟩ := id C0
  intro H locs ls hw hl
  have ho := Option.some.inj h
  subst ho
  exact z_rti C0 hw d_Fl_execute_440
set_option maxHeartbeats 4000000 in
set_option maxRecDepth 100000 in
theorem w_Fl_execute_461 {p : Program} {l : Launch} {e : Env} {s : State} {m : MethodId} {args : Array Value} {below : List Frame} {meth : Method} {c : Code} {D : va_G} {A : Nat → Prop} {ad : Nat → Nat} {ca : Nat → ClassId} (o : (Int32 × z_Sg)) (C0 : z_cx z_RFl b_Fl_execute 1 (some .int) D (z_Kt ca) A p s m args meth c) (q : z_Sg) (h : k_Fl_execute_461 q = some o) : ∀ (H : Heap) (locs : List Loc) (ls : Array Slot), z_wd D (z_K ad ca q) A s H locs → lv_has ls 1 [(0, .ref (ad 11))] → W p l e (z_rm 5 138) s m args below meth c H locs 0 0 (z_qi below D (z_Kt ca) (z_K ad ca o.2) A s args o.1) (F0 m 461 ls []) := by
  obtain ⟨hx, hb, hr, hlk, hml, hown, hts, hK, hA⟩ := id C0
  intro H locs ls hw hl
  refine lv_aload_n hx hb d_Fl_execute_461 rfl (lv_at hl 0 rfl) ?_
  refine lv_aload_n hx hb d_Fl_execute_462 rfl (lv_at hl 0 rfl) ?_
  refine gfK_11_code C0 hw fl_Fl_15 d_Fl_execute_463 ?_
  refine gfK_5_onward C0 hw fl_Fl_64 d_Fl_execute_466 ?_
  refine lv_aload_n hx hb d_Fl_execute_469 rfl (lv_at hl 0 rfl) ?_
  refine gfK_11_code C0 hw fl_Fl_15 d_Fl_execute_470 ?_
  refine gfK_5_number C0 hw fl_Fl_68 d_Fl_execute_473 ?_
  refine lv_ladd hx hb d_Fl_execute_476 ?_
  obtain ⟨r46, er46, h⟩ := ok_b h
  refine z_vi (rest := []) C0 hw (c_Fl_jump ((z_gL q 10) + (z_gL q 9)) q r46 er46) mw_Fl_jump ml_Fl_71 11 rfl ⟨Nat.le_of_ble_eq_true rfl, Nat.le_of_ble_eq_true rfl⟩ ⟨Nat.le_refl 0, Nat.le_refl 0⟩ rfl hl.1 rfl (Nat.le_of_ble_eq_true rfl) d_Fl_execute_477 (fun H locs hw => ?_)
  have ho := Option.some.inj h
  subst ho
  exact z_rti C0 hw d_Fl_execute_480
set_option maxHeartbeats 4000000 in
set_option maxRecDepth 100000 in
theorem w_Fl_execute_566 {p : Program} {l : Launch} {e : Env} {s : State} {m : MethodId} {args : Array Value} {below : List Frame} {meth : Method} {c : Code} {D : va_G} {A : Nat → Prop} {ad : Nat → Nat} {ca : Nat → ClassId} (o : (Int32 × z_Sg)) (C0 : z_cx z_RFl b_Fl_execute 1 (some .int) D (z_Kt ca) A p s m args meth c) (q : z_Sg) (t0 : Int32) (h : k_Fl_execute_566 t0 q = some o) : ∀ (H : Heap) (locs : List Loc) (ls : Array Slot), z_wd D (z_K ad ca q) A s H locs → lv_has ls 1 [] → W p l e (z_rm 5 138) s m args below meth c H locs 0 0 (z_qi below D (z_Kt ca) (z_K ad ca o.2) A s args o.1) (F0 m 566 ls [.int t0]) := by
  obtain ⟨hx, hb, hr, hlk, hml, hown, hts, hK, hA⟩ := id C0
  intro H locs ls hw hl
  have ho := Option.some.inj h
  subst ho
  exact z_rti C0 hw d_Fl_execute_566
set_option maxHeartbeats 4000000 in
set_option maxRecDepth 100000 in
theorem c_Fl_execute {l : Launch} {D : va_G} {ad : Nat → Nat} {ca : Nat → ClassId} (q : z_Sg) (o : (Int32 × z_Sg)) (h : f_Fl_execute q = some o) : z_ci l y_Fl_execute b_Fl_execute 1 (some .int) 5 138 D (z_Kt ca) (z_K ad ca q) (z_K ad ca o.2) [.ref (ad 11)] o.1 := by
  refine z_ci_of (own := z_RFl) (by decide) rfl ?_
  intro p e s m below meth c A C0 hw
  obtain ⟨hx, hb, hr, hlk, hml, hown, hts, hK, hA⟩ := id C0
  generalize hH : s.heap = H at hw ⊢
  generalize hlo : ([] : List Loc) = locs at hw ⊢
  refine z_entry (lv := [(0, .ref (ad 11))]) (Nat.le_of_ble_eq_true rfl) rfl (fun ls hl => ?_)
  unfold f_Fl_execute at h
  refine lv_aload_n hx hb d_Fl_execute_0 rfl (lv_at hl 0 rfl) ?_
  refine gfK_11_code C0 hw fl_Fl_15 d_Fl_execute_1 ?_
  refine gfK_5_opcode C0 hw fl_Fl_31 d_Fl_execute_4 ?_
  refine lv_bipush (v := (-8 : Int32)) hx hb d_Fl_execute_7 (by decide) ?_
  refine lv_iand hx hb d_Fl_execute_9 ?_
  by_cases c1 : ((z_gI q 11) &&& (-8 : Int32)) = (80 : Int32)
  · have h := ok_t h c1
    refine lv_lookup (off := 58) (tgt := 68) hx hb d_Fl_execute_10 (by decide) (by rw [c1]; rfl) (by decide) ?_
    refine lv_aload_n hx hb d_Fl_execute_68 rfl (lv_at hl 0 rfl) ?_
    refine lv_aload_n hx hb d_Fl_execute_69 rfl (lv_at hl 0 rfl) ?_
    refine gfK_11_operands C0 hw fl_Fl_19 d_Fl_execute_70 ?_
    refine lv_aload_n hx hb d_Fl_execute_73 rfl (lv_at hl 0 rfl) ?_
    refine gfK_11_code C0 hw fl_Fl_15 d_Fl_execute_74 ?_
    obtain ⟨r2, er2, h⟩ := ok_b h
    refine z_vi (rest := [.ref (ad 6), .ref (ad 11)]) C0 hw (c_De_registerO q r2 er2) mw_De_registerO ml_Fl_37 5 rfl ⟨Nat.le_of_ble_eq_true rfl, Nat.le_of_ble_eq_true rfl⟩ ⟨Nat.le_refl 0, Nat.le_refl 0⟩ rfl hl.1 rfl (Nat.le_of_ble_eq_true rfl) d_Fl_execute_77 (fun H locs hw => ?_)
    refine lv_bipush (v := (8 : Int32)) hx hb d_Fl_execute_80 (by decide) ?_
    obtain ⟨r3, er3, h⟩ := ok_b h
    refine z_vl (rest := [.ref (ad 11)]) C0 hw (c_Op_part r2 (8 : Int32) q r3 er3) mw_Op_part ml_Fl_41 6 rfl ⟨Nat.le_of_ble_eq_true rfl, Nat.le_of_ble_eq_true rfl⟩ ⟨Nat.le_refl 0, Nat.le_refl 0⟩ rfl hl.1 rfl (Nat.le_of_ble_eq_true rfl) d_Fl_execute_82 (fun H locs hw => ?_)
    refine lv_aload_n hx hb d_Fl_execute_85 rfl (lv_at hl 0 rfl) ?_
    refine gfK_11_code C0 hw fl_Fl_15 d_Fl_execute_86 ?_
    obtain ⟨r4, er4, h⟩ := ok_b h
    refine z_vi (rest := [.long r3, .ref (ad 11)]) C0 hw (c_De_sizeOnStack q r4 er4) mw_De_sizeOnStack ml_Fl_47 5 rfl ⟨Nat.le_of_ble_eq_true rfl, Nat.le_of_ble_eq_true rfl⟩ ⟨Nat.le_refl 0, Nat.le_refl 0⟩ rfl hl.1 rfl (Nat.le_of_ble_eq_true rfl) d_Fl_execute_89 (fun H locs hw => ?_)
    obtain ⟨r5, er5, h⟩ := ok_b h
    refine z_vi (rest := []) C0 hw (c_Fl_push r3 r4 q r5 er5) mw_Fl_push ml_Fl_50 11 rfl ⟨Nat.le_of_ble_eq_true rfl, Nat.le_of_ble_eq_true rfl⟩ ⟨Nat.le_refl 0, Nat.le_refl 0⟩ rfl hl.1 rfl (Nat.le_of_ble_eq_true rfl) d_Fl_execute_92 (fun H locs hw => ?_)
    have ho := Option.some.inj h
    subst ho
    exact z_rti C0 hw d_Fl_execute_95
  have h := ok_f h c1
  by_cases c6 : ((z_gI q 11) &&& (-8 : Int32)) = (88 : Int32)
  · have h := ok_t h c6
    refine lv_lookup (off := 86) (tgt := 96) hx hb d_Fl_execute_10 (by decide) (by rw [c6]; rfl) (by decide) ?_
    refine lv_aload_n hx hb d_Fl_execute_96 rfl (lv_at hl 0 rfl) ?_
    refine lv_aload_n hx hb d_Fl_execute_97 rfl (lv_at hl 0 rfl) ?_
    refine gfK_11_code C0 hw fl_Fl_15 d_Fl_execute_98 ?_
    obtain ⟨r7, er7, h⟩ := ok_b h
    refine z_vi (rest := [.ref (ad 11)]) C0 hw (c_De_registerO q r7 er7) mw_De_registerO ml_Fl_37 5 rfl ⟨Nat.le_of_ble_eq_true rfl, Nat.le_of_ble_eq_true rfl⟩ ⟨Nat.le_refl 0, Nat.le_refl 0⟩ rfl hl.1 rfl (Nat.le_of_ble_eq_true rfl) d_Fl_execute_101 (fun H locs hw => ?_)
    obtain ⟨r8, er8, h⟩ := ok_b h
    refine z_vi (rest := []) C0 hw (c_Fl_popRegister r7 q r8 er8) mw_Fl_popRegister ml_Fl_54 11 rfl ⟨Nat.le_of_ble_eq_true rfl, Nat.le_of_ble_eq_true rfl⟩ ⟨Nat.le_refl 0, Nat.le_refl 0⟩ rfl hl.1 rfl (Nat.le_of_ble_eq_true rfl) d_Fl_execute_104 (fun H locs hw => ?_)
    have ho := Option.some.inj h
    subst ho
    exact z_rti C0 hw d_Fl_execute_107
  have h := ok_f h c6
  by_cases c9 : ((z_gI q 11) &&& (-8 : Int32)) = (112 : Int32)
  · have h := ok_t h c9
    refine lv_lookup (off := 98) (tgt := 108) hx hb d_Fl_execute_10 (by decide) (by rw [c9]; rfl) (by decide) ?_
    exact w_Fl_execute_108 o C0 q h H locs ls hw (lv_sub hl [0] rfl)
  have h := ok_f h c9
  by_cases c13 : ((z_gI q 11) &&& (-8 : Int32)) = (120 : Int32)
  · have h := ok_t h c13
    refine lv_lookup (off := 98) (tgt := 108) hx hb d_Fl_execute_10 (by decide) (by rw [c13]; rfl) (by decide) ?_
    exact w_Fl_execute_108 o C0 q h H locs ls hw (lv_sub hl [0] rfl)
  have h := ok_f h c13
  by_cases c14 : ((z_gI q 11) &&& (-8 : Int32)) = (384 : Int32)
  · have h := ok_t h c14
    refine lv_lookup (off := 98) (tgt := 108) hx hb d_Fl_execute_10 (by decide) (by rw [c14]; rfl) (by decide) ?_
    exact w_Fl_execute_108 o C0 q h H locs ls hw (lv_sub hl [0] rfl)
  have h := ok_f h c14
  by_cases c15 : ((z_gI q 11) &&& (-8 : Int32)) = (392 : Int32)
  · have h := ok_t h c15
    refine lv_lookup (off := 98) (tgt := 108) hx hb d_Fl_execute_10 (by decide) (by rw [c15]; rfl) (by decide) ?_
    exact w_Fl_execute_108 o C0 q h H locs ls hw (lv_sub hl [0] rfl)
  have h := ok_f h c15
  refine lv_lookup (off := 139) (tgt := 149) hx hb d_Fl_execute_10 (by decide) (by show Op.lookupswitch.offset [(80, 58), (88, 86), (112, 98), (120, 98), (384, 98), (392, 98)] _ _ = _; rw [lv_osw (a := 80) c1 rfl, lv_osw (a := 88) c6 rfl, lv_osw (a := 112) c9 rfl, lv_osw (a := 120) c13 rfl, lv_osw (a := 384) c14 rfl, lv_osw (a := 392) c15 rfl]; rfl) (by decide) ?_
  refine lv_aload_n hx hb d_Fl_execute_149 rfl (lv_at hl 0 rfl) ?_
  refine gfK_11_code C0 hw fl_Fl_15 d_Fl_execute_150 ?_
  refine gfK_5_opcode C0 hw fl_Fl_31 d_Fl_execute_153 ?_
  by_cases c16 : (z_gI q 11) = (104 : Int32)
  · have h := ok_t h c16
    refine lv_lookup (off := 156) (tgt := 312) hx hb d_Fl_execute_156 (by decide) (by rw [c16]; rfl) (by decide) ?_
    exact w_Fl_execute_312 o C0 q h H locs ls hw (lv_sub hl [0] rfl)
  have h := ok_f h c16
  by_cases c19 : (z_gI q 11) = (106 : Int32)
  · have h := ok_t h c19
    refine lv_lookup (off := 156) (tgt := 312) hx hb d_Fl_execute_156 (by decide) (by rw [c19]; rfl) (by decide) ?_
    exact w_Fl_execute_312 o C0 q h H locs ls hw (lv_sub hl [0] rfl)
  have h := ok_f h c19
  by_cases c20 : (z_gI q 11) = (143 : Int32)
  · have h := ok_t h c20
    refine lv_lookup (off := 175) (tgt := 331) hx hb d_Fl_execute_156 (by decide) (by rw [c20]; rfl) (by decide) ?_
    refine lv_aload_n hx hb d_Fl_execute_331 rfl (lv_at hl 0 rfl) ?_
    refine gfK_11_code C0 hw fl_Fl_15 d_Fl_execute_332 ?_
    refine gfK_5_mod C0 hw fl_Fl_75 d_Fl_execute_335 ?_
    refine lv_iconst (v := (3 : Int32)) hx hb d_Fl_execute_338 (by decide) ?_
    refine lv_icmp_ne (tgt := 356) hx hb d_Fl_execute_339 (by decide) (fun c21 => ?_) (fun c21 => ?_)
    · have h := ok_f h c21
      refine lv_aload_n hx hb d_Fl_execute_356 rfl (lv_at hl 0 rfl) ?_
      obtain ⟨r22, er22, h⟩ := ok_b h
      refine z_vi (rest := []) C0 hw (c_Fl_popMemory q r22 er22) mw_Fl_popMemory ml_Fl_81 11 rfl ⟨Nat.le_of_ble_eq_true rfl, Nat.le_of_ble_eq_true rfl⟩ ⟨Nat.le_refl 0, Nat.le_refl 0⟩ rfl hl.1 rfl (Nat.le_of_ble_eq_true rfl) d_Fl_execute_357 (fun H locs hw => ?_)
      exact w_Fl_execute_360 o C0 r22.2 r22.1 h H locs ls hw (lv_sub hl [] rfl)
    · have h := ok_t h c21
      refine lv_aload_n hx hb d_Fl_execute_342 rfl (lv_at hl 0 rfl) ?_
      refine lv_aload_n hx hb d_Fl_execute_343 rfl (lv_at hl 0 rfl) ?_
      refine gfK_11_code C0 hw fl_Fl_15 d_Fl_execute_344 ?_
      obtain ⟨r23, er23, h⟩ := ok_b h
      refine z_vi (rest := [.ref (ad 11)]) C0 hw (c_De_registerE q r23 er23) mw_De_registerE ml_Fl_78 5 rfl ⟨Nat.le_of_ble_eq_true rfl, Nat.le_of_ble_eq_true rfl⟩ ⟨Nat.le_refl 0, Nat.le_refl 0⟩ rfl hl.1 rfl (Nat.le_of_ble_eq_true rfl) d_Fl_execute_347 (fun H locs hw => ?_)
      obtain ⟨r24, er24, h⟩ := ok_b h
      refine z_vi (rest := []) C0 hw (c_Fl_popRegister r23 q r24 er24) mw_Fl_popRegister ml_Fl_54 11 rfl ⟨Nat.le_of_ble_eq_true rfl, Nat.le_of_ble_eq_true rfl⟩ ⟨Nat.le_refl 0, Nat.le_refl 0⟩ rfl hl.1 rfl (Nat.le_of_ble_eq_true rfl) d_Fl_execute_350 (fun H locs hw => ?_)
      refine lv_goto (tgt := 360) hx hb d_Fl_execute_353 (by decide) ?_
      exact w_Fl_execute_360 o C0 r24.2 r24.1 h H locs ls hw (lv_sub hl [] rfl)
  have h := ok_f h c20
  by_cases c25 : (z_gI q 11) = (156 : Int32)
  · have h := ok_t h c25
    refine lv_lookup (off := 205) (tgt := 361) hx hb d_Fl_execute_156 (by decide) (by rw [c25]; rfl) (by decide) ?_
    refine lv_aload_n hx hb d_Fl_execute_361 rfl (lv_at hl 0 rfl) ?_
    refine lv_aload_n hx hb d_Fl_execute_362 rfl (lv_at hl 0 rfl) ?_
    refine gfK_11_state C0 hw fl_Fl_9 d_Fl_execute_363 ?_
    refine gfK_1_flags C0 hw fl_Fl_84 d_Fl_execute_366 ?_
    refine lv_iconst (v := (2 : Int32)) hx hb d_Fl_execute_369 (by decide) ?_
    refine lv_ior hx hb d_Fl_execute_370 ?_
    refine lv_i2l hx hb d_Fl_execute_371 rfl ?_
    refine lv_aload_n hx hb d_Fl_execute_372 rfl (lv_at hl 0 rfl) ?_
    refine gfK_11_code C0 hw fl_Fl_15 d_Fl_execute_373 ?_
    obtain ⟨r26, er26, h⟩ := ok_b h
    refine z_vi (rest := [.long (((z_gI q 0) ||| (2 : Int32)).toInt64), .ref (ad 11)]) C0 hw (c_De_sizeOnStack q r26 er26) mw_De_sizeOnStack ml_Fl_47 5 rfl ⟨Nat.le_of_ble_eq_true rfl, Nat.le_of_ble_eq_true rfl⟩ ⟨Nat.le_refl 0, Nat.le_refl 0⟩ rfl hl.1 rfl (Nat.le_of_ble_eq_true rfl) d_Fl_execute_376 (fun H locs hw => ?_)
    obtain ⟨r27, er27, h⟩ := ok_b h
    refine z_vi (rest := []) C0 hw (c_Fl_push (((z_gI q 0) ||| (2 : Int32)).toInt64) r26 q r27 er27) mw_Fl_push ml_Fl_50 11 rfl ⟨Nat.le_of_ble_eq_true rfl, Nat.le_of_ble_eq_true rfl⟩ ⟨Nat.le_refl 0, Nat.le_refl 0⟩ rfl hl.1 rfl (Nat.le_of_ble_eq_true rfl) d_Fl_execute_379 (fun H locs hw => ?_)
    have ho := Option.some.inj h
    subst ho
    exact z_rti C0 hw d_Fl_execute_382
  have h := ok_f h c25
  by_cases c28 : (z_gI q 11) = (157 : Int32)
  · have h := ok_t h c28
    refine lv_lookup (off := 227) (tgt := 383) hx hb d_Fl_execute_156 (by decide) (by rw [c28]; rfl) (by decide) ?_
    refine lv_aload_n hx hb d_Fl_execute_383 rfl (lv_at hl 0 rfl) ?_
    obtain ⟨r29, er29, h⟩ := ok_b h
    refine z_vi (rest := []) C0 hw (c_Fl_popFlags q r29 er29) mw_Fl_popFlags ml_Fl_89 11 rfl ⟨Nat.le_of_ble_eq_true rfl, Nat.le_of_ble_eq_true rfl⟩ ⟨Nat.le_refl 0, Nat.le_refl 0⟩ rfl hl.1 rfl (Nat.le_of_ble_eq_true rfl) d_Fl_execute_384 (fun H locs hw => ?_)
    have ho := Option.some.inj h
    subst ho
    exact z_rti C0 hw d_Fl_execute_387
  have h := ok_f h c28
  by_cases c30 : (z_gI q 11) = (194 : Int32)
  · have h := ok_t h c30
    refine lv_lookup (off := 232) (tgt := 388) hx hb d_Fl_execute_156 (by decide) (by rw [c30]; rfl) (by decide) ?_
    exact w_Fl_execute_388 o C0 q h H locs ls hw (lv_sub hl [0] rfl)
  have h := ok_f h c30
  by_cases c32 : (z_gI q 11) = (195 : Int32)
  · have h := ok_t h c32
    refine lv_lookup (off := 232) (tgt := 388) hx hb d_Fl_execute_156 (by decide) (by rw [c32]; rfl) (by decide) ?_
    exact w_Fl_execute_388 o C0 q h H locs ls hw (lv_sub hl [0] rfl)
  have h := ok_f h c32
  by_cases c33 : (z_gI q 11) = (201 : Int32)
  · have h := ok_t h c33
    refine lv_lookup (off := 237) (tgt := 393) hx hb d_Fl_execute_156 (by decide) (by rw [c33]; rfl) (by decide) ?_
    refine lv_aload_n hx hb d_Fl_execute_393 rfl (lv_at hl 0 rfl) ?_
    obtain ⟨r34, er34, h⟩ := ok_b h
    refine z_vi (rest := []) C0 hw (c_Fl_leave q r34 er34) mw_Fl_leave ml_Fl_95 11 rfl ⟨Nat.le_of_ble_eq_true rfl, Nat.le_of_ble_eq_true rfl⟩ ⟨Nat.le_refl 0, Nat.le_refl 0⟩ rfl hl.1 rfl (Nat.le_of_ble_eq_true rfl) d_Fl_execute_394 (fun H locs hw => ?_)
    have ho := Option.some.inj h
    subst ho
    exact z_rti C0 hw d_Fl_execute_397
  have h := ok_f h c33
  by_cases c35 : (z_gI q 11) = (224 : Int32)
  · have h := ok_t h c35
    refine lv_lookup (off := 242) (tgt := 398) hx hb d_Fl_execute_156 (by decide) (by rw [c35]; rfl) (by decide) ?_
    exact w_Fl_execute_398 o C0 q h H locs ls hw (lv_sub hl [0] rfl)
  have h := ok_f h c35
  by_cases c37 : (z_gI q 11) = (225 : Int32)
  · have h := ok_t h c37
    refine lv_lookup (off := 242) (tgt := 398) hx hb d_Fl_execute_156 (by decide) (by rw [c37]; rfl) (by decide) ?_
    exact w_Fl_execute_398 o C0 q h H locs ls hw (lv_sub hl [0] rfl)
  have h := ok_f h c37
  by_cases c38 : (z_gI q 11) = (226 : Int32)
  · have h := ok_t h c38
    refine lv_lookup (off := 242) (tgt := 398) hx hb d_Fl_execute_156 (by decide) (by rw [c38]; rfl) (by decide) ?_
    exact w_Fl_execute_398 o C0 q h H locs ls hw (lv_sub hl [0] rfl)
  have h := ok_f h c38
  by_cases c39 : (z_gI q 11) = (227 : Int32)
  · have h := ok_t h c39
    refine lv_lookup (off := 247) (tgt := 403) hx hb d_Fl_execute_156 (by decide) (by rw [c39]; rfl) (by decide) ?_
    refine lv_aload_n hx hb d_Fl_execute_403 rfl (lv_at hl 0 rfl) ?_
    refine gfK_11_state C0 hw fl_Fl_9 d_Fl_execute_404 ?_
    refine gfK_1_registers C0 hw fl_Fl_101 d_Fl_execute_407 ?_
    refine lv_iconst (v := (1 : Int32)) hx hb d_Fl_execute_410 (by decide) ?_
    obtain ⟨b40, h⟩ := ok_g h
    refine alK_2 C0 hw b40 d_Fl_execute_411 ?_
    refine lv_lconst (v := (0 : Int64)) hx hb d_Fl_execute_412 (by decide) ?_
    refine W.lcmp hx hb d_Fl_execute_413 ?_
    refine lv_if_ne (tgt := 439) hx hb d_Fl_execute_414 (by decide) (fun c41 => ?_) (fun c41 => ?_)
    · have h := ok_f h (fun z => c41 ((lg_cmp_eq _ _).mpr z))
      refine lv_iconst (v := (-1 : Int32)) hx hb d_Fl_execute_439 (by decide) ?_
      exact w_Fl_execute_440 o C0 q (-1 : Int32) h H locs ls hw (lv_sub hl [] rfl)
    · have h := ok_t h ((lg_cmp_eq _ _).mp c41)
      refine lv_aload_n hx hb d_Fl_execute_417 rfl (lv_at hl 0 rfl) ?_
      refine lv_aload_n hx hb d_Fl_execute_418 rfl (lv_at hl 0 rfl) ?_
      refine gfK_11_code C0 hw fl_Fl_15 d_Fl_execute_419 ?_
      refine gfK_5_onward C0 hw fl_Fl_64 d_Fl_execute_422 ?_
      refine lv_aload_n hx hb d_Fl_execute_425 rfl (lv_at hl 0 rfl) ?_
      refine gfK_11_code C0 hw fl_Fl_15 d_Fl_execute_426 ?_
      refine gfK_5_number C0 hw fl_Fl_68 d_Fl_execute_429 ?_
      refine lv_ladd hx hb d_Fl_execute_432 ?_
      obtain ⟨r42, er42, h⟩ := ok_b h
      refine z_vi (rest := []) C0 hw (c_Fl_jump ((z_gL q 10) + (z_gL q 9)) q r42 er42) mw_Fl_jump ml_Fl_71 11 rfl ⟨Nat.le_of_ble_eq_true rfl, Nat.le_of_ble_eq_true rfl⟩ ⟨Nat.le_refl 0, Nat.le_refl 0⟩ rfl hl.1 rfl (Nat.le_of_ble_eq_true rfl) d_Fl_execute_433 (fun H locs hw => ?_)
      refine lv_goto (tgt := 440) hx hb d_Fl_execute_436 (by decide) ?_
      exact w_Fl_execute_440 o C0 r42.2 r42.1 h H locs ls hw (lv_sub hl [] rfl)
  have h := ok_f h c39
  by_cases c43 : (z_gI q 11) = (232 : Int32)
  · have h := ok_t h c43
    refine lv_lookup (off := 285) (tgt := 441) hx hb d_Fl_execute_156 (by decide) (by rw [c43]; rfl) (by decide) ?_
    refine lv_aload_n hx hb d_Fl_execute_441 rfl (lv_at hl 0 rfl) ?_
    refine lv_aload_n hx hb d_Fl_execute_442 rfl (lv_at hl 0 rfl) ?_
    refine gfK_11_code C0 hw fl_Fl_15 d_Fl_execute_443 ?_
    refine gfK_5_onward C0 hw fl_Fl_64 d_Fl_execute_446 ?_
    refine lv_aload_n hx hb d_Fl_execute_449 rfl (lv_at hl 0 rfl) ?_
    refine gfK_11_code C0 hw fl_Fl_15 d_Fl_execute_450 ?_
    refine gfK_5_number C0 hw fl_Fl_68 d_Fl_execute_453 ?_
    refine lv_ladd hx hb d_Fl_execute_456 ?_
    obtain ⟨r44, er44, h⟩ := ok_b h
    refine z_vi (rest := []) C0 hw (c_Fl_call ((z_gL q 10) + (z_gL q 9)) q r44 er44) mw_Fl_call ml_Fl_105 11 rfl ⟨Nat.le_of_ble_eq_true rfl, Nat.le_of_ble_eq_true rfl⟩ ⟨Nat.le_refl 0, Nat.le_refl 0⟩ rfl hl.1 rfl (Nat.le_of_ble_eq_true rfl) d_Fl_execute_457 (fun H locs hw => ?_)
    have ho := Option.some.inj h
    subst ho
    exact z_rti C0 hw d_Fl_execute_460
  have h := ok_f h c43
  by_cases c45 : (z_gI q 11) = (233 : Int32)
  · have h := ok_t h c45
    refine lv_lookup (off := 305) (tgt := 461) hx hb d_Fl_execute_156 (by decide) (by rw [c45]; rfl) (by decide) ?_
    exact w_Fl_execute_461 o C0 q h H locs ls hw (lv_sub hl [0] rfl)
  have h := ok_f h c45
  by_cases c47 : (z_gI q 11) = (235 : Int32)
  · have h := ok_t h c47
    refine lv_lookup (off := 305) (tgt := 461) hx hb d_Fl_execute_156 (by decide) (by rw [c47]; rfl) (by decide) ?_
    exact w_Fl_execute_461 o C0 q h H locs ls hw (lv_sub hl [0] rfl)
  have h := ok_f h c47
  by_cases c48 : (z_gI q 11) = (255 : Int32)
  · have h := ok_t h c48
    refine lv_lookup (off := 325) (tgt := 481) hx hb d_Fl_execute_156 (by decide) (by rw [c48]; rfl) (by decide) ?_
    refine lv_aload_n hx hb d_Fl_execute_481 rfl (lv_at hl 0 rfl) ?_
    refine gfK_11_code C0 hw fl_Fl_15 d_Fl_execute_482 ?_
    refine gfK_5_reg C0 hw fl_Fl_108 d_Fl_execute_485 ?_
    refine lv_iconst (v := (2 : Int32)) hx hb d_Fl_execute_488 (by decide) ?_
    refine lv_icmp_ne (tgt := 506) hx hb d_Fl_execute_489 (by decide) (fun c49 => ?_) (fun c49 => ?_)
    · have h := ok_f h c49
      refine lv_aload_n hx hb d_Fl_execute_506 rfl (lv_at hl 0 rfl) ?_
      refine gfK_11_code C0 hw fl_Fl_15 d_Fl_execute_507 ?_
      refine gfK_5_reg C0 hw fl_Fl_108 d_Fl_execute_510 ?_
      refine lv_iconst (v := (4 : Int32)) hx hb d_Fl_execute_513 (by decide) ?_
      refine lv_icmp_ne (tgt := 531) hx hb d_Fl_execute_514 (by decide) (fun c50 => ?_) (fun c50 => ?_)
      · have h := ok_f h c50
        refine lv_aload_n hx hb d_Fl_execute_531 rfl (lv_at hl 0 rfl) ?_
        refine gfK_11_code C0 hw fl_Fl_15 d_Fl_execute_532 ?_
        refine gfK_5_reg C0 hw fl_Fl_108 d_Fl_execute_535 ?_
        refine lv_bipush (v := (6 : Int32)) hx hb d_Fl_execute_538 (by decide) ?_
        refine lv_icmp_ne (tgt := 564) hx hb d_Fl_execute_540 (by decide) (fun c51 => ?_) (fun c51 => ?_)
        · have h := ok_f h c51
          refine lv_bipush (v := (-2 : Int32)) hx hb d_Fl_execute_564 (by decide) ?_
          exact w_Fl_execute_566 o C0 q (-2 : Int32) h H locs ls hw (lv_sub hl [] rfl)
        · have h := ok_t h c51
          refine lv_aload_n hx hb d_Fl_execute_543 rfl (lv_at hl 0 rfl) ?_
          refine lv_aload_n hx hb d_Fl_execute_544 rfl (lv_at hl 0 rfl) ?_
          refine gfK_11_operands C0 hw fl_Fl_19 d_Fl_execute_545 ?_
          obtain ⟨r52, er52, h⟩ := ok_b h
          refine z_vl (rest := [.ref (ad 11)]) C0 hw (c_Op_value q r52 er52) mw_Op_value ml_Fl_111 6 rfl ⟨Nat.le_of_ble_eq_true rfl, Nat.le_of_ble_eq_true rfl⟩ ⟨Nat.le_refl 0, Nat.le_refl 0⟩ rfl hl.1 rfl (Nat.le_of_ble_eq_true rfl) d_Fl_execute_548 (fun H locs hw => ?_)
          refine lv_aload_n hx hb d_Fl_execute_551 rfl (lv_at hl 0 rfl) ?_
          refine gfK_11_code C0 hw fl_Fl_15 d_Fl_execute_552 ?_
          obtain ⟨r53, er53, h⟩ := ok_b h
          refine z_vi (rest := [.long r52, .ref (ad 11)]) C0 hw (c_De_sizeOnStack q r53 er53) mw_De_sizeOnStack ml_Fl_47 5 rfl ⟨Nat.le_of_ble_eq_true rfl, Nat.le_of_ble_eq_true rfl⟩ ⟨Nat.le_refl 0, Nat.le_refl 0⟩ rfl hl.1 rfl (Nat.le_of_ble_eq_true rfl) d_Fl_execute_555 (fun H locs hw => ?_)
          obtain ⟨r54, er54, h⟩ := ok_b h
          refine z_vi (rest := []) C0 hw (c_Fl_push r52 r53 q r54 er54) mw_Fl_push ml_Fl_50 11 rfl ⟨Nat.le_of_ble_eq_true rfl, Nat.le_of_ble_eq_true rfl⟩ ⟨Nat.le_refl 0, Nat.le_refl 0⟩ rfl hl.1 rfl (Nat.le_of_ble_eq_true rfl) d_Fl_execute_558 (fun H locs hw => ?_)
          refine lv_goto (tgt := 566) hx hb d_Fl_execute_561 (by decide) ?_
          exact w_Fl_execute_566 o C0 r54.2 r54.1 h H locs ls hw (lv_sub hl [] rfl)
      · have h := ok_t h c50
        refine lv_aload_n hx hb d_Fl_execute_517 rfl (lv_at hl 0 rfl) ?_
        refine lv_aload_n hx hb d_Fl_execute_518 rfl (lv_at hl 0 rfl) ?_
        refine gfK_11_operands C0 hw fl_Fl_19 d_Fl_execute_519 ?_
        obtain ⟨r55, er55, h⟩ := ok_b h
        refine z_vl (rest := [.ref (ad 11)]) C0 hw (c_Op_value q r55 er55) mw_Op_value ml_Fl_111 6 rfl ⟨Nat.le_of_ble_eq_true rfl, Nat.le_of_ble_eq_true rfl⟩ ⟨Nat.le_refl 0, Nat.le_refl 0⟩ rfl hl.1 rfl (Nat.le_of_ble_eq_true rfl) d_Fl_execute_522 (fun H locs hw => ?_)
        obtain ⟨r56, er56, h⟩ := ok_b h
        refine z_vi (rest := []) C0 hw (c_Fl_jump r55 q r56 er56) mw_Fl_jump ml_Fl_71 11 rfl ⟨Nat.le_of_ble_eq_true rfl, Nat.le_of_ble_eq_true rfl⟩ ⟨Nat.le_refl 0, Nat.le_refl 0⟩ rfl hl.1 rfl (Nat.le_of_ble_eq_true rfl) d_Fl_execute_525 (fun H locs hw => ?_)
        refine lv_goto (tgt := 566) hx hb d_Fl_execute_528 (by decide) ?_
        exact w_Fl_execute_566 o C0 r56.2 r56.1 h H locs ls hw (lv_sub hl [] rfl)
    · have h := ok_t h c49
      refine lv_aload_n hx hb d_Fl_execute_492 rfl (lv_at hl 0 rfl) ?_
      refine lv_aload_n hx hb d_Fl_execute_493 rfl (lv_at hl 0 rfl) ?_
      refine gfK_11_operands C0 hw fl_Fl_19 d_Fl_execute_494 ?_
      obtain ⟨r57, er57, h⟩ := ok_b h
      refine z_vl (rest := [.ref (ad 11)]) C0 hw (c_Op_value q r57 er57) mw_Op_value ml_Fl_111 6 rfl ⟨Nat.le_of_ble_eq_true rfl, Nat.le_of_ble_eq_true rfl⟩ ⟨Nat.le_refl 0, Nat.le_refl 0⟩ rfl hl.1 rfl (Nat.le_of_ble_eq_true rfl) d_Fl_execute_497 (fun H locs hw => ?_)
      obtain ⟨r58, er58, h⟩ := ok_b h
      refine z_vi (rest := []) C0 hw (c_Fl_call r57 q r58 er58) mw_Fl_call ml_Fl_105 11 rfl ⟨Nat.le_of_ble_eq_true rfl, Nat.le_of_ble_eq_true rfl⟩ ⟨Nat.le_refl 0, Nat.le_refl 0⟩ rfl hl.1 rfl (Nat.le_of_ble_eq_true rfl) d_Fl_execute_500 (fun H locs hw => ?_)
      refine lv_goto (tgt := 566) hx hb d_Fl_execute_503 (by decide) ?_
      exact w_Fl_execute_566 o C0 r58.2 r58.1 h H locs ls hw (lv_sub hl [] rfl)
  have h := ok_f h c48
  by_cases c59 : (z_gI q 11) = (261 : Int32)
  · have h := ok_t h c59
    refine lv_lookup (off := 411) (tgt := 567) hx hb d_Fl_execute_156 (by decide) (by rw [c59]; rfl) (by decide) ?_
    refine lv_aload_n hx hb d_Fl_execute_567 rfl (lv_at hl 0 rfl) ?_
    obtain ⟨r60, er60, h⟩ := ok_b h
    refine z_vi (rest := []) C0 hw (c_Fl_enterSystem q r60 er60) mw_Fl_enterSystem ml_Fl_115 11 rfl ⟨Nat.le_of_ble_eq_true rfl, Nat.le_of_ble_eq_true rfl⟩ ⟨Nat.le_refl 0, Nat.le_refl 0⟩ rfl hl.1 rfl (Nat.le_of_ble_eq_true rfl) d_Fl_execute_568 (fun H locs hw => ?_)
    have ho := Option.some.inj h
    subst ho
    exact z_rti C0 hw d_Fl_execute_571
  have h := ok_f h c59
  by_cases c61 : (z_gI q 11) = (263 : Int32)
  · have h := ok_t h c61
    refine lv_lookup (off := 416) (tgt := 572) hx hb d_Fl_execute_156 (by decide) (by rw [c61]; rfl) (by decide) ?_
    refine lv_aload_n hx hb d_Fl_execute_572 rfl (lv_at hl 0 rfl) ?_
    obtain ⟨r62, er62, h⟩ := ok_b h
    refine z_vi (rest := []) C0 hw (c_Fl_leaveSystem q r62 er62) mw_Fl_leaveSystem ml_Fl_118 11 rfl ⟨Nat.le_of_ble_eq_true rfl, Nat.le_of_ble_eq_true rfl⟩ ⟨Nat.le_refl 0, Nat.le_refl 0⟩ rfl hl.1 rfl (Nat.le_of_ble_eq_true rfl) d_Fl_execute_573 (fun H locs hw => ?_)
    have ho := Option.some.inj h
    subst ho
    exact z_rti C0 hw d_Fl_execute_576
  have h := ok_f h c61
  refine lv_lookup (off := 421) (tgt := 577) hx hb d_Fl_execute_156 (by decide) (by show Op.lookupswitch.offset [(104, 156), (106, 156), (143, 175), (156, 205), (157, 227), (194, 232), (195, 232), (201, 237), (224, 242), (225, 242), (226, 242), (227, 247), (232, 285), (233, 305), (235, 305), (255, 325), (261, 411), (263, 416)] _ _ = _; rw [lv_osw (a := 104) c16 rfl, lv_osw (a := 106) c19 rfl, lv_osw (a := 143) c20 rfl, lv_osw (a := 156) c25 rfl, lv_osw (a := 157) c28 rfl, lv_osw (a := 194) c30 rfl, lv_osw (a := 195) c32 rfl, lv_osw (a := 201) c33 rfl, lv_osw (a := 224) c35 rfl, lv_osw (a := 225) c37 rfl, lv_osw (a := 226) c38 rfl, lv_osw (a := 227) c39 rfl, lv_osw (a := 232) c43 rfl, lv_osw (a := 233) c45 rfl, lv_osw (a := 235) c47 rfl, lv_osw (a := 255) c48 rfl, lv_osw (a := 261) c59 rfl, lv_osw (a := 263) c61 rfl]; rfl) (by decide) ?_
  refine lv_bipush (v := (-2 : Int32)) hx hb d_Fl_execute_577 (by decide) ?_
  have ho := Option.some.inj h
  subst ho
  exact z_rti C0 hw d_Fl_execute_579
def f_De_registerG (q : z_Sg) : Option Int32 :=
  (f_De_extension (4 : Int32) q).bind (fun r1 => some ((z_gI q 13) ||| r1))
set_option maxHeartbeats 4000000 in
set_option maxRecDepth 100000 in
theorem c_De_registerG {l : Launch} {D : va_G} {ad : Nat → Nat} {ca : Nat → ClassId} (q : z_Sg) (o : Int32) (h : f_De_registerG q = some o) : z_ci l y_De_registerG b_De_registerG 1 (some .int) 1 21 D (z_Kt ca) (z_K ad ca q) (z_K ad ca q) [.ref (ad 5)] o := by
  refine z_ci_of (own := z_RDe) (by decide) rfl ?_
  intro p e s m below meth c A C0 hw
  obtain ⟨hx, hb, hr, hlk, hml, hown, hts, hK, hA⟩ := id C0
  generalize hH : s.heap = H at hw ⊢
  generalize hlo : ([] : List Loc) = locs at hw ⊢
  refine z_entry (lv := [(0, .ref (ad 5))]) (Nat.le_of_ble_eq_true rfl) rfl (fun ls hl => ?_)
  unfold f_De_registerG at h
  refine lv_aload_n hx hb d_De_registerG_0 rfl (lv_at hl 0 rfl) ?_
  refine gfK_5_reg C0 hw fl_De_103 d_De_registerG_1 ?_
  refine lv_aload_n hx hb d_De_registerG_4 rfl (lv_at hl 0 rfl) ?_
  refine lv_iconst (v := (4 : Int32)) hx hb d_De_registerG_5 (by decide) ?_
  obtain ⟨r1, er1, h⟩ := ok_b h
  refine z_vi (rest := [.int (z_gI q 13)]) C0 hw (c_De_extension (4 : Int32) q r1 er1) mw_De_extension ml_De_113 5 rfl ⟨Nat.le_of_ble_eq_true rfl, Nat.le_of_ble_eq_true rfl⟩ ⟨Nat.le_refl 0, Nat.le_refl 0⟩ rfl hl.1 rfl (Nat.le_of_ble_eq_true rfl) d_De_registerG_6 (fun H locs hw => ?_)
  refine lv_ior hx hb d_De_registerG_9 ?_
  have ho := Option.some.inj h
  subst ho
  exact z_rti C0 hw d_De_registerG_10
def f_Op_g (x1 : Int32) (q : z_Sg) : Option Int64 :=
  (f_De_registerG q).bind (fun r1 => (f_Op_part r1 x1 q).bind (fun r2 => some r2))
set_option maxHeartbeats 4000000 in
set_option maxRecDepth 100000 in
theorem c_Op_g {l : Launch} {D : va_G} {ad : Nat → Nat} {ca : Nat → ClassId} (x1 : Int32) (q : z_Sg) (o : Int64) (h : f_Op_g x1 q = some o) : z_cl l y_Op_g b_Op_g 2 (some .long) 2 44 D (z_Kt ca) (z_K ad ca q) (z_K ad ca q) [.ref (ad 6), .int x1] o := by
  refine z_cl_of (own := z_ROp) (by decide) rfl ?_
  intro p e s m below meth c A C0 hw
  obtain ⟨hx, hb, hr, hlk, hml, hown, hts, hK, hA⟩ := id C0
  generalize hH : s.heap = H at hw ⊢
  generalize hlo : ([] : List Loc) = locs at hw ⊢
  refine z_entry (lv := [(0, .ref (ad 6)), (1, .int x1)]) (Nat.le_of_ble_eq_true rfl) rfl (fun ls hl => ?_)
  unfold f_Op_g at h
  refine lv_aload_n hx hb d_Op_g_0 rfl (lv_at hl 0 rfl) ?_
  refine lv_aload_n hx hb d_Op_g_1 rfl (lv_at hl 0 rfl) ?_
  refine gfK_6_code C0 hw fl_Op_15 d_Op_g_2 ?_
  obtain ⟨r1, er1, h⟩ := ok_b h
  refine z_vi (rest := [.ref (ad 6)]) C0 hw (c_De_registerG q r1 er1) mw_De_registerG ml_Op_116 5 rfl ⟨Nat.le_of_ble_eq_true rfl, Nat.le_of_ble_eq_true rfl⟩ ⟨Nat.le_refl 0, Nat.le_refl 0⟩ rfl hl.1 rfl (Nat.le_of_ble_eq_true rfl) d_Op_g_5 (fun H locs hw => ?_)
  refine lv_iload_n hx hb d_Op_g_8 rfl (lv_at hl 1 rfl) ?_
  obtain ⟨r2, er2, h⟩ := ok_b h
  refine z_vl (rest := []) C0 hw (c_Op_part r1 x1 q r2 er2) mw_Op_part ml_Op_101 6 rfl ⟨Nat.le_of_ble_eq_true rfl, Nat.le_of_ble_eq_true rfl⟩ ⟨Nat.le_refl 0, Nat.le_refl 0⟩ rfl hl.1 rfl (Nat.le_of_ble_eq_true rfl) d_Op_g_9 (fun H locs hw => ?_)
  have ho := Option.some.inj h
  subst ho
  exact z_rtl C0 hw d_Op_g_12
def f_Op_putG (x1 : Int64) (x3 : Int32) (q : z_Sg) : Option z_Sg :=
  (f_De_registerG q).bind (fun r1 => (f_Op_putPart r1 x1 x3 q).bind (fun r2 => some r2))
set_option maxHeartbeats 4000000 in
set_option maxRecDepth 100000 in
theorem c_Op_putG {l : Launch} {D : va_G} {ad : Nat → Nat} {ca : Nat → ClassId} (x1 : Int64) (x3 : Int32) (q : z_Sg) (o : z_Sg) (h : f_Op_putG x1 x3 q = some o) : z_cv l y_Op_putG b_Op_putG 4 none 2 50 D (z_Kt ca) (z_K ad ca q) (z_K ad ca o) [.ref (ad 6), .long x1, .int x3] := by
  refine z_cv_of (own := z_ROp) (by decide) rfl ?_
  intro p e s m below meth c A C0 hw
  obtain ⟨hx, hb, hr, hlk, hml, hown, hts, hK, hA⟩ := id C0
  generalize hH : s.heap = H at hw ⊢
  generalize hlo : ([] : List Loc) = locs at hw ⊢
  refine z_entry (lv := [(0, .ref (ad 6)), (1, .long x1), (3, .int x3)]) (Nat.le_of_ble_eq_true rfl) rfl (fun ls hl => ?_)
  unfold f_Op_putG at h
  refine lv_aload_n hx hb d_Op_putG_0 rfl (lv_at hl 0 rfl) ?_
  refine lv_aload_n hx hb d_Op_putG_1 rfl (lv_at hl 0 rfl) ?_
  refine gfK_6_code C0 hw fl_Op_15 d_Op_putG_2 ?_
  obtain ⟨r1, er1, h⟩ := ok_b h
  refine z_vi (rest := [.ref (ad 6)]) C0 hw (c_De_registerG q r1 er1) mw_De_registerG ml_Op_116 5 rfl ⟨Nat.le_of_ble_eq_true rfl, Nat.le_of_ble_eq_true rfl⟩ ⟨Nat.le_refl 0, Nat.le_refl 0⟩ rfl hl.1 rfl (Nat.le_of_ble_eq_true rfl) d_Op_putG_5 (fun H locs hw => ?_)
  refine lv_lload_n hx hb d_Op_putG_8 rfl (lv_at hl 1 rfl) ?_
  refine lv_iload_n hx hb d_Op_putG_9 rfl (lv_at hl 2 rfl) ?_
  obtain ⟨r2, er2, h⟩ := ok_b h
  refine z_vv (rest := []) C0 hw (c_Op_putPart r1 x1 x3 q r2 er2) mw_Op_putPart ml_Op_108 6 rfl ⟨Nat.le_of_ble_eq_true rfl, Nat.le_of_ble_eq_true rfl⟩ ⟨Nat.le_refl 0, Nat.le_refl 0⟩ rfl hl.1 rfl (Nat.le_of_ble_eq_true rfl) d_Op_putG_10 (fun H locs hw => ?_)
  have ho := Option.some.inj h
  subst ho
  exact z_rtv C0 hw d_Op_putG_13
def k_Tw_moveIf_34 (x2 : Int32) (t1 : Int64) (q : z_Sg) : Option z_Sg :=
  (f_Op_putG t1 x2 q).bind (fun r4 => some r4)
def f_Tw_moveIf (x1 : Int32) (q : z_Sg) : Option z_Sg :=
  z_nm ((z_gI q 15)) (fun n1 => if x1 = 0 then ((f_Op_g n1 q).bind (fun r3 => k_Tw_moveIf_34 n1 r3 q)) else ((f_Op_value q).bind (fun r5 => k_Tw_moveIf_34 n1 r5 q)))
set_option maxHeartbeats 4000000 in
set_option maxRecDepth 100000 in
theorem w_Tw_moveIf_34 {p : Program} {l : Launch} {e : Env} {s : State} {m : MethodId} {args : Array Value} {below : List Frame} {meth : Method} {c : Code} {D : va_G} {A : Nat → Prop} {ad : Nat → Nat} {ca : Nat → ClassId} (o : z_Sg) (C0 : z_cx z_RTw b_Tw_moveIf 3 none D (z_Kt ca) A p s m args meth c) (q : z_Sg) (x2 : Int32) (t1 : Int64) (h : k_Tw_moveIf_34 x2 t1 q = some o) : ∀ (H : Heap) (locs : List Loc) (ls : Array Slot), z_wd D (z_K ad ca q) A s H locs → lv_has ls 3 [(2, .int x2)] → W p l e (z_rm 3 73) s m args below meth c H locs 0 0 (z_qv below D (z_Kt ca) (z_K ad ca o) A s args) (F0 m 34 ls [.long t1, .ref (ad 6)]) := by
  obtain ⟨hx, hb, hr, hlk, hml, hown, hts, hK, hA⟩ := id C0
  intro H locs ls hw hl
  refine lv_iload_n hx hb d_Tw_moveIf_34 rfl (lv_at hl 0 rfl) ?_
  obtain ⟨r4, er4, h⟩ := ok_b h
  refine z_vv (rest := []) C0 hw (c_Op_putG t1 x2 q r4 er4) mw_Op_putG ml_Tw_88 6 rfl ⟨Nat.le_of_ble_eq_true rfl, Nat.le_of_ble_eq_true rfl⟩ ⟨Nat.le_refl 0, Nat.le_refl 0⟩ rfl hl.1 rfl (Nat.le_of_ble_eq_true rfl) d_Tw_moveIf_35 (fun H locs hw => ?_)
  have ho := Option.some.inj h
  subst ho
  exact z_rtv C0 hw d_Tw_moveIf_38
set_option maxHeartbeats 4000000 in
set_option maxRecDepth 100000 in
theorem c_Tw_moveIf {l : Launch} {D : va_G} {ad : Nat → Nat} {ca : Nat → ClassId} (x1 : Int32) (q : z_Sg) (o : z_Sg) (h : f_Tw_moveIf x1 q = some o) : z_cv l y_Tw_moveIf b_Tw_moveIf 3 none 3 73 D (z_Kt ca) (z_K ad ca q) (z_K ad ca o) [.ref (ad 20), .int x1] := by
  refine z_cv_of (own := z_RTw) (by decide) rfl ?_
  intro p e s m below meth c A C0 hw
  obtain ⟨hx, hb, hr, hlk, hml, hown, hts, hK, hA⟩ := id C0
  generalize hH : s.heap = H at hw ⊢
  generalize hlo : ([] : List Loc) = locs at hw ⊢
  refine z_entry (lv := [(0, .ref (ad 20)), (1, .int x1)]) (Nat.le_of_ble_eq_true rfl) rfl (fun ls hl => ?_)
  unfold f_Tw_moveIf at h
  refine lv_aload_n hx hb d_Tw_moveIf_0 rfl (lv_at hl 0 rfl) ?_
  refine gfK_20_operands C0 hw fl_Tw_15 d_Tw_moveIf_1 ?_
  refine gfK_6_bytes C0 hw fl_Tw_95 d_Tw_moveIf_4 ?_
  obtain ⟨n1, en1, h⟩ := ok_n h
  refine z_ti en1 ?_
  refine lv_istore_n (lv' := [(2, .int n1), (0, .ref (ad 20)), (1, .int x1)]) hx hb d_Tw_moveIf_7 rfl hl (by decide) rfl (fun ls hl => ?_)
  refine lv_aload_n hx hb d_Tw_moveIf_8 rfl (lv_at hl 1 rfl) ?_
  refine gfK_20_operands C0 hw fl_Tw_15 d_Tw_moveIf_9 ?_
  refine lv_iload_n hx hb d_Tw_moveIf_12 rfl (lv_at hl 2 rfl) ?_
  refine lv_if_eq (tgt := 26) hx hb d_Tw_moveIf_13 (by decide) (fun c2 => ?_) (fun c2 => ?_)
  · have h := ok_t h c2
    refine lv_aload_n hx hb d_Tw_moveIf_26 rfl (lv_at hl 1 rfl) ?_
    refine gfK_20_operands C0 hw fl_Tw_15 d_Tw_moveIf_27 ?_
    refine lv_iload_n hx hb d_Tw_moveIf_30 rfl (lv_at hl 0 rfl) ?_
    obtain ⟨r3, er3, h⟩ := ok_b h
    refine z_vl (rest := [.ref (ad 6)]) C0 hw (c_Op_g n1 q r3 er3) mw_Op_g ml_Tw_60 6 rfl ⟨Nat.le_of_ble_eq_true rfl, Nat.le_of_ble_eq_true rfl⟩ ⟨Nat.le_refl 0, Nat.le_refl 0⟩ rfl hl.1 rfl (Nat.le_of_ble_eq_true rfl) d_Tw_moveIf_31 (fun H locs hw => ?_)
    exact w_Tw_moveIf_34 o C0 q n1 r3 h H locs ls hw (lv_sub hl [0] rfl)
  · have h := ok_f h c2
    refine lv_aload_n hx hb d_Tw_moveIf_16 rfl (lv_at hl 1 rfl) ?_
    refine gfK_20_operands C0 hw fl_Tw_15 d_Tw_moveIf_17 ?_
    obtain ⟨r5, er5, h⟩ := ok_b h
    refine z_vl (rest := [.ref (ad 6)]) C0 hw (c_Op_value q r5 er5) mw_Op_value ml_Tw_75 6 rfl ⟨Nat.le_of_ble_eq_true rfl, Nat.le_of_ble_eq_true rfl⟩ ⟨Nat.le_refl 0, Nat.le_refl 0⟩ rfl hl.1 rfl (Nat.le_of_ble_eq_true rfl) d_Tw_moveIf_20 (fun H locs hw => ?_)
    refine lv_goto (tgt := 34) hx hb d_Tw_moveIf_23 (by decide) ?_
    exact w_Tw_moveIf_34 o C0 q n1 r5 h H locs ls hw (lv_sub hl [0] rfl)
def kb_Tw_turnBytes_30 (ih30 : Int32 × Int64 × Int64 × Int32 × z_Sg → Option z_Sg) (x1 : Int32) (x2 : Int64) (x4 : Int64) (x6 : Int32) (q : z_Sg) : Option z_Sg :=
  if x1 ≤ x6 then ((f_De_registerO q).bind (fun r5 => (f_Op_putPart r5 x4 x1 q).bind (fun r6 => some r6))) else (z_nm (((z_lshl x4 (8 : Int32)) ||| ((z_lushr x2 ((8 : Int32) * x6)) &&& (255 : Int64)))) (fun n7 => z_nm (x6 + (1 : Int32)) (fun n8 => ih30 (x1, x2, n7, n8, q))))
def k_Tw_turnBytes_30 (x1 : Int32) (x2 : Int64) (x4 : Int64) (x6 : Int32) (q : z_Sg) : Option z_Sg := z_lo (fun ih30 a => kb_Tw_turnBytes_30 ih30 a.1 a.2.1 a.2.2.1 a.2.2.2.1 a.2.2.2.2) 2000 (x1, x2, x4, x6, q)
def f_Tw_turnBytes (q : z_Sg) : Option z_Sg :=
  (f_De_sizeV q).bind (fun r1 => (f_De_registerO q).bind (fun r2 => (f_Op_part r2 r1 q).bind (fun r3 => k_Tw_turnBytes_30 r1 r3 (0 : Int64) (0 : Int32) q)))
set_option maxHeartbeats 4000000 in
set_option maxRecDepth 100000 in
theorem wb_Tw_turnBytes_30 {p : Program} {l : Launch} {e : Env} {s : State} {m : MethodId} {args : Array Value} {below : List Frame} {meth : Method} {c : Code} {D : va_G} {A : Nat → Prop} {ad : Nat → Nat} {ca : Nat → ClassId} (o : z_Sg) (C0 : z_cx z_RTw b_Tw_turnBytes 7 none D (z_Kt ca) A p s m args meth c) (q : z_Sg) (ih30 : Int32 × Int64 × Int64 × Int32 × z_Sg → Option z_Sg) (hi30 : ∀ a : Int32 × Int64 × Int64 × Int32 × z_Sg, ih30 a = some o → ∀ (H : Heap) (locs : List Loc) (ls : Array Slot), z_wd D (z_K ad ca a.2.2.2.2) A s H locs → lv_has ls 7 [(0, .ref (ad 20)), (1, .int a.1), (2, .long a.2.1), (4, .long a.2.2.1), (6, .int a.2.2.2.1)] → W p l e (z_rm 2 50) s m args below meth c H locs 0 0 (z_qv below D (z_Kt ca) (z_K ad ca o) A s args) (F0 m 30 ls [])) (x1 : Int32) (x2 : Int64) (x4 : Int64) (x6 : Int32) (h : kb_Tw_turnBytes_30 ih30 x1 x2 x4 x6 q = some o) : ∀ (H : Heap) (locs : List Loc) (ls : Array Slot), z_wd D (z_K ad ca q) A s H locs → lv_has ls 7 [(0, .ref (ad 20)), (1, .int x1), (2, .long x2), (4, .long x4), (6, .int x6)] → W p l e (z_rm 2 50) s m args below meth c H locs 0 0 (z_qv below D (z_Kt ca) (z_K ad ca o) A s args) (F0 m 30 ls []) := by
  obtain ⟨hx, hb, hr, hlk, hml, hown, hts, hK, hA⟩ := id C0
  intro H locs ls hw hl
  refine lv_iload hx hb d_Tw_turnBytes_30 (lv_at hl 4 rfl) ?_
  refine lv_iload_n hx hb d_Tw_turnBytes_32 rfl (lv_at hl 1 rfl) ?_
  refine lv_icmp_ge (tgt := 61) hx hb d_Tw_turnBytes_33 (by decide) (fun c4 => ?_) (fun c4 => ?_)
  · have h := ok_t h c4
    refine lv_aload_n hx hb d_Tw_turnBytes_61 rfl (lv_at hl 0 rfl) ?_
    refine gfK_20_operands C0 hw fl_Tw_15 d_Tw_turnBytes_62 ?_
    refine lv_aload_n hx hb d_Tw_turnBytes_65 rfl (lv_at hl 0 rfl) ?_
    refine gfK_20_code C0 hw fl_Tw_9 d_Tw_turnBytes_66 ?_
    obtain ⟨r5, er5, h⟩ := ok_b h
    refine z_vi (rest := [.ref (ad 6)]) C0 hw (c_De_registerO q r5 er5) mw_De_registerO ml_Tw_109 5 rfl ⟨Nat.le_of_ble_eq_true rfl, Nat.le_of_ble_eq_true rfl⟩ ⟨Nat.le_refl 0, Nat.le_refl 0⟩ rfl hl.1 rfl (Nat.le_of_ble_eq_true rfl) d_Tw_turnBytes_69 (fun H locs hw => ?_)
    refine lv_lload hx hb d_Tw_turnBytes_72 (lv_at hl 3 rfl) ?_
    refine lv_iload_n hx hb d_Tw_turnBytes_74 rfl (lv_at hl 1 rfl) ?_
    obtain ⟨r6, er6, h⟩ := ok_b h
    refine z_vv (rest := []) C0 hw (c_Op_putPart r5 x4 x1 q r6 er6) mw_Op_putPart ml_Tw_118 6 rfl ⟨Nat.le_of_ble_eq_true rfl, Nat.le_of_ble_eq_true rfl⟩ ⟨Nat.le_refl 0, Nat.le_refl 0⟩ rfl hl.1 rfl (Nat.le_of_ble_eq_true rfl) d_Tw_turnBytes_75 (fun H locs hw => ?_)
    have ho := Option.some.inj h
    subst ho
    exact z_rtv C0 hw d_Tw_turnBytes_78
  · have h := ok_f h c4
    refine lv_lload hx hb d_Tw_turnBytes_36 (lv_at hl 3 rfl) ?_
    refine lv_bipush (v := (8 : Int32)) hx hb d_Tw_turnBytes_38 (by decide) ?_
    refine lv_lshl (v := (z_lshl x4 (8 : Int32))) hx hb d_Tw_turnBytes_40 rfl ?_
    refine lv_lload_n hx hb d_Tw_turnBytes_41 rfl (lv_at hl 2 rfl) ?_
    refine lv_bipush (v := (8 : Int32)) hx hb d_Tw_turnBytes_42 (by decide) ?_
    refine lv_iload hx hb d_Tw_turnBytes_44 (lv_at hl 4 rfl) ?_
    refine lv_imul hx hb d_Tw_turnBytes_46 ?_
    refine lv_lushr (v := (z_lushr x2 ((8 : Int32) * x6))) hx hb d_Tw_turnBytes_47 rfl ?_
    refine lv_ldc2 (own := z_RTw) hx hb hown (hts _ kl_Tw_116) d_Tw_turnBytes_48 ?_
    refine lv_land hx hb d_Tw_turnBytes_51 ?_
    refine lv_lor hx hb d_Tw_turnBytes_52 ?_
    obtain ⟨n7, en7, h⟩ := ok_n h
    refine z_tl en7 ?_
    refine lv_lstore (lv' := [(4, .long n7), (0, .ref (ad 20)), (1, .int x1), (2, .long x2), (6, .int x6)]) hx hb d_Tw_turnBytes_53 hl (by decide) rfl (fun ls hl => ?_)
    obtain ⟨n8, en8, h⟩ := ok_n h
    refine lv_iinc (v := n8) (lv' := [(6, .int n8), (4, .long n7), (0, .ref (ad 20)), (1, .int x1), (2, .long x2)]) hx hb d_Tw_turnBytes_55 hl (k := 4) rfl (by rw [en8]; rfl) (by decide) rfl (fun ls hl => ?_)
    refine lv_goto (tgt := 30) hx hb d_Tw_turnBytes_58 (by decide) ?_
    exact hi30 (x1, x2, n7, n8, q) h H locs ls hw (lv_sub hl [2, 3, 4, 1, 0] rfl)
theorem w_Tw_turnBytes_30 {p : Program} {l : Launch} {e : Env} {s : State} {m : MethodId} {args : Array Value} {below : List Frame} {meth : Method} {c : Code} {D : va_G} {A : Nat → Prop} {ad : Nat → Nat} {ca : Nat → ClassId} (o : z_Sg) (C0 : z_cx z_RTw b_Tw_turnBytes 7 none D (z_Kt ca) A p s m args meth c) (q : z_Sg) (x1 : Int32) (x2 : Int64) (x4 : Int64) (x6 : Int32) (h : k_Tw_turnBytes_30 x1 x2 x4 x6 q = some o) : ∀ (H : Heap) (locs : List Loc) (ls : Array Slot), z_wd D (z_K ad ca q) A s H locs → lv_has ls 7 [(0, .ref (ad 20)), (1, .int x1), (2, .long x2), (4, .long x4), (6, .int x6)] → W p l e (z_rm 2 50) s m args below meth c H locs 0 0 (z_qv below D (z_Kt ca) (z_K ad ca o) A s args) (F0 m 30 ls []) := by
  have key : ∀ (n : Nat) (a : Int32 × Int64 × Int64 × Int32 × z_Sg), z_lo (fun ih30 a => kb_Tw_turnBytes_30 ih30 a.1 a.2.1 a.2.2.1 a.2.2.2.1 a.2.2.2.2) n a = some o → ∀ (H : Heap) (locs : List Loc) (ls : Array Slot), z_wd D (z_K ad ca a.2.2.2.2) A s H locs → lv_has ls 7 [(0, .ref (ad 20)), (1, .int a.1), (2, .long a.2.1), (4, .long a.2.2.1), (6, .int a.2.2.2.1)] → W p l e (z_rm 2 50) s m args below meth c H locs 0 0 (z_qv below D (z_Kt ca) (z_K ad ca o) A s args) (F0 m 30 ls []) := by
    intro n
    induction n with
    | zero => intro a h; cases h
    | succ n ih => exact fun a h => wb_Tw_turnBytes_30 o C0 a.2.2.2.2 (z_lo (fun ih30 a => kb_Tw_turnBytes_30 ih30 a.1 a.2.1 a.2.2.1 a.2.2.2.1 a.2.2.2.2) n) ih a.1 a.2.1 a.2.2.1 a.2.2.2.1 h
  exact key 2000 (x1, x2, x4, x6, q) h
set_option maxHeartbeats 4000000 in
set_option maxRecDepth 100000 in
theorem c_Tw_turnBytes {l : Launch} {D : va_G} {ad : Nat → Nat} {ca : Nat → ClassId} (q : z_Sg) (o : z_Sg) (h : f_Tw_turnBytes q = some o) : z_cv l y_Tw_turnBytes b_Tw_turnBytes 7 none 2 50 D (z_Kt ca) (z_K ad ca q) (z_K ad ca o) [.ref (ad 20)] := by
  refine z_cv_of (own := z_RTw) (by decide) rfl ?_
  intro p e s m below meth c A C0 hw
  obtain ⟨hx, hb, hr, hlk, hml, hown, hts, hK, hA⟩ := id C0
  generalize hH : s.heap = H at hw ⊢
  generalize hlo : ([] : List Loc) = locs at hw ⊢
  refine z_entry (lv := [(0, .ref (ad 20))]) (Nat.le_of_ble_eq_true rfl) rfl (fun ls hl => ?_)
  unfold f_Tw_turnBytes at h
  refine lv_aload_n hx hb d_Tw_turnBytes_0 rfl (lv_at hl 0 rfl) ?_
  refine gfK_20_code C0 hw fl_Tw_9 d_Tw_turnBytes_1 ?_
  obtain ⟨r1, er1, h⟩ := ok_b h
  refine z_vi (rest := []) C0 hw (c_De_sizeV q r1 er1) mw_De_sizeV ml_Tw_56 5 rfl ⟨Nat.le_of_ble_eq_true rfl, Nat.le_of_ble_eq_true rfl⟩ ⟨Nat.le_refl 0, Nat.le_refl 0⟩ rfl hl.1 rfl (Nat.le_of_ble_eq_true rfl) d_Tw_turnBytes_4 (fun H locs hw => ?_)
  refine lv_istore_n (lv' := [(1, .int r1), (0, .ref (ad 20))]) hx hb d_Tw_turnBytes_7 rfl hl (by decide) rfl (fun ls hl => ?_)
  refine lv_aload_n hx hb d_Tw_turnBytes_8 rfl (lv_at hl 1 rfl) ?_
  refine gfK_20_operands C0 hw fl_Tw_15 d_Tw_turnBytes_9 ?_
  refine lv_aload_n hx hb d_Tw_turnBytes_12 rfl (lv_at hl 1 rfl) ?_
  refine gfK_20_code C0 hw fl_Tw_9 d_Tw_turnBytes_13 ?_
  obtain ⟨r2, er2, h⟩ := ok_b h
  refine z_vi (rest := [.ref (ad 6)]) C0 hw (c_De_registerO q r2 er2) mw_De_registerO ml_Tw_109 5 rfl ⟨Nat.le_of_ble_eq_true rfl, Nat.le_of_ble_eq_true rfl⟩ ⟨Nat.le_refl 0, Nat.le_refl 0⟩ rfl hl.1 rfl (Nat.le_of_ble_eq_true rfl) d_Tw_turnBytes_16 (fun H locs hw => ?_)
  refine lv_iload_n hx hb d_Tw_turnBytes_19 rfl (lv_at hl 0 rfl) ?_
  obtain ⟨r3, er3, h⟩ := ok_b h
  refine z_vl (rest := []) C0 hw (c_Op_part r2 r1 q r3 er3) mw_Op_part ml_Tw_112 6 rfl ⟨Nat.le_of_ble_eq_true rfl, Nat.le_of_ble_eq_true rfl⟩ ⟨Nat.le_refl 0, Nat.le_refl 0⟩ rfl hl.1 rfl (Nat.le_of_ble_eq_true rfl) d_Tw_turnBytes_20 (fun H locs hw => ?_)
  refine lv_lstore_n (lv' := [(2, .long r3), (1, .int r1), (0, .ref (ad 20))]) hx hb d_Tw_turnBytes_23 rfl hl (by decide) rfl (fun ls hl => ?_)
  refine lv_lconst (v := (0 : Int64)) hx hb d_Tw_turnBytes_24 (by decide) ?_
  refine lv_lstore (lv' := [(4, .long (0 : Int64)), (2, .long r3), (1, .int r1), (0, .ref (ad 20))]) hx hb d_Tw_turnBytes_25 hl (by decide) rfl (fun ls hl => ?_)
  refine lv_iconst (v := (0 : Int32)) hx hb d_Tw_turnBytes_27 (by decide) ?_
  refine lv_istore (lv' := [(6, .int (0 : Int32)), (4, .long (0 : Int64)), (2, .long r3), (1, .int r1), (0, .ref (ad 20))]) hx hb d_Tw_turnBytes_28 hl (by decide) rfl (fun ls hl => ?_)
  exact w_Tw_turnBytes_30 o C0 q r1 r3 (0 : Int64) (0 : Int32) h H locs ls hw (lv_sub hl [4, 3, 2, 1, 0] rfl)
def f_Ar_settle (x1 : Int32) (x2 : Int32) (x3 : Int32) (q : z_Sg) : Option z_Sg :=
  z_nm (((z_gI q 0) &&& ((x1 ||| x3) ^^^ (-1 : Int32)))) (fun n1 => z_nm (z_sI q 0 ((n1 ||| (x2 &&& x1)) ||| (((z_gL q 4).toInt32) &&& x3))) (fun q2 => some q2))
set_option maxHeartbeats 4000000 in
set_option maxRecDepth 100000 in
theorem c_Ar_settle {l : Launch} {D : va_G} {ad : Nat → Nat} {ca : Nat → ClassId} (x1 : Int32) (x2 : Int32) (x3 : Int32) (q : z_Sg) (o : z_Sg) (h : f_Ar_settle x1 x2 x3 q = some o) : z_cv l y_Ar_settle b_Ar_settle 5 none 0 0 D (z_Kt ca) (z_K ad ca q) (z_K ad ca o) [.ref (ad 9), .int x1, .int x2, .int x3] := by
  refine z_cv_of (own := z_RAr) (by decide) rfl ?_
  intro p e s m below meth c A C0 hw
  obtain ⟨hx, hb, hr, hlk, hml, hown, hts, hK, hA⟩ := id C0
  generalize hH : s.heap = H at hw ⊢
  generalize hlo : ([] : List Loc) = locs at hw ⊢
  refine z_entry (lv := [(0, .ref (ad 9)), (1, .int x1), (2, .int x2), (3, .int x3)]) (Nat.le_of_ble_eq_true rfl) rfl (fun ls hl => ?_)
  unfold f_Ar_settle at h
  refine lv_aload_n hx hb d_Ar_settle_0 rfl (lv_at hl 0 rfl) ?_
  refine gfK_9_state C0 hw fl_Ar_9 d_Ar_settle_1 ?_
  refine gfK_1_flags C0 hw fl_Ar_17 d_Ar_settle_4 ?_
  refine lv_iload_n hx hb d_Ar_settle_7 rfl (lv_at hl 1 rfl) ?_
  refine lv_iload_n hx hb d_Ar_settle_8 rfl (lv_at hl 3 rfl) ?_
  refine lv_ior hx hb d_Ar_settle_9 ?_
  refine lv_iconst (v := (-1 : Int32)) hx hb d_Ar_settle_10 (by decide) ?_
  refine lv_ixor hx hb d_Ar_settle_11 ?_
  refine lv_iand hx hb d_Ar_settle_12 ?_
  obtain ⟨n1, en1, h⟩ := ok_n h
  refine z_ti en1 ?_
  refine lv_istore (lv' := [(4, .int n1), (0, .ref (ad 9)), (1, .int x1), (2, .int x2), (3, .int x3)]) hx hb d_Ar_settle_13 hl (by decide) rfl (fun ls hl => ?_)
  refine lv_aload_n hx hb d_Ar_settle_15 rfl (lv_at hl 1 rfl) ?_
  refine gfK_9_state C0 hw fl_Ar_9 d_Ar_settle_16 ?_
  refine lv_iload hx hb d_Ar_settle_19 (lv_at hl 0 rfl) ?_
  refine lv_iload_n hx hb d_Ar_settle_21 rfl (lv_at hl 3 rfl) ?_
  refine lv_iload_n hx hb d_Ar_settle_22 rfl (lv_at hl 2 rfl) ?_
  refine lv_iand hx hb d_Ar_settle_23 ?_
  refine lv_ior hx hb d_Ar_settle_24 ?_
  refine lv_aload_n hx hb d_Ar_settle_25 rfl (lv_at hl 1 rfl) ?_
  refine gfK_9_state C0 hw fl_Ar_9 d_Ar_settle_26 ?_
  refine gfK_1_undefined C0 hw fl_Ar_23 d_Ar_settle_29 ?_
  refine lv_l2i hx hb d_Ar_settle_32 rfl ?_
  refine lv_iload_n hx hb d_Ar_settle_33 rfl (lv_at hl 4 rfl) ?_
  refine lv_iand hx hb d_Ar_settle_34 ?_
  refine lv_ior hx hb d_Ar_settle_35 ?_
  refine pfK_1_flags C0 hw fl_Ar_17 d_Ar_settle_36 (fun H locs hw => ?_)
  obtain ⟨q2, eq2, h⟩ := ok_n h
  rw [← eq2] at hw
  have ho := Option.some.inj h
  subst ho
  exact z_rtv C0 hw d_Ar_settle_39
def k_Tw_useBit_129 (q : z_Sg) : Option z_Sg :=
  some q
def k_Tw_useBit_62 (x1 : Int32) (x4 : Int64) (x6 : Int64) (t1 : Int32) (t2 : Int32) (q : z_Sg) : Option z_Sg :=
  (f_Ar_settle t1 t2 (2196 : Int32) q).bind (fun r5 => if x1 = (1 : Int32) then ((f_Op_put (x4 ||| x6) r5).bind (fun r11 => k_Tw_useBit_129 r11)) else (if x1 = (2 : Int32) then ((f_Op_put (x4 &&& (x6 ^^^ (-1 : Int64))) r5).bind (fun r10 => k_Tw_useBit_129 r10)) else (if x1 = (3 : Int32) then ((f_Op_put (x4 ^^^ x6) r5).bind (fun r9 => k_Tw_useBit_129 r9)) else (k_Tw_useBit_129 r5))))
def k_Tw_useBit_45 (x1 : Int32) (x4 : Int64) (x6 : Int64) (t0 : Int32) (q : z_Sg) : Option z_Sg :=
  if t0 = 0 then (k_Tw_useBit_62 x1 x4 x6 (1 : Int32) (0 : Int32) q) else (k_Tw_useBit_62 x1 x4 x6 (1 : Int32) (1 : Int32) q)
def f_Tw_useBit (x1 : Int32) (x2 : Int64) (q : z_Sg) : Option z_Sg :=
  (f_Op_value q).bind (fun r1 => z_nm ((z_lshl (1 : Int64) ((x2 &&& (((8 : Int64) * ((z_gI q 15).toInt64)) - (1 : Int64))).toInt32))) (fun n2 => if (r1 &&& n2) = (0 : Int64) then (k_Tw_useBit_45 x1 r1 n2 (0 : Int32) q) else (k_Tw_useBit_45 x1 r1 n2 (1 : Int32) q)))
set_option maxHeartbeats 4000000 in
set_option maxRecDepth 100000 in
theorem w_Tw_useBit_129 {p : Program} {l : Launch} {e : Env} {s : State} {m : MethodId} {args : Array Value} {below : List Frame} {meth : Method} {c : Code} {D : va_G} {A : Nat → Prop} {ad : Nat → Nat} {ca : Nat → ClassId} (o : z_Sg) (C0 : z_cx z_RTw b_Tw_useBit 9 none D (z_Kt ca) A p s m args meth c) (q : z_Sg) (h : k_Tw_useBit_129 q = some o) : ∀ (H : Heap) (locs : List Loc) (ls : Array Slot), z_wd D (z_K ad ca q) A s H locs → lv_has ls 9 [] → W p l e (z_rm 3 72) s m args below meth c H locs 0 0 (z_qv below D (z_Kt ca) (z_K ad ca o) A s args) (F0 m 129 ls []) := by
  obtain ⟨hx, hb, hr, hlk, hml, hown, hts, hK, hA⟩ := id C0
  intro H locs ls hw hl
  have ho := Option.some.inj h
  subst ho
  exact z_rtv C0 hw d_Tw_useBit_129
set_option maxHeartbeats 4000000 in
set_option maxRecDepth 100000 in
theorem w_Tw_useBit_62 {p : Program} {l : Launch} {e : Env} {s : State} {m : MethodId} {args : Array Value} {below : List Frame} {meth : Method} {c : Code} {D : va_G} {A : Nat → Prop} {ad : Nat → Nat} {ca : Nat → ClassId} (o : z_Sg) (C0 : z_cx z_RTw b_Tw_useBit 9 none D (z_Kt ca) A p s m args meth c) (q : z_Sg) (x1 : Int32) (x4 : Int64) (x6 : Int64) (t1 : Int32) (t2 : Int32) (h : k_Tw_useBit_62 x1 x4 x6 t1 t2 q = some o) : ∀ (H : Heap) (locs : List Loc) (ls : Array Slot), z_wd D (z_K ad ca q) A s H locs → lv_has ls 9 [(0, .ref (ad 20)), (1, .int x1), (4, .long x4), (6, .long x6)] → W p l e (z_rm 3 72) s m args below meth c H locs 0 0 (z_qv below D (z_Kt ca) (z_K ad ca o) A s args) (F0 m 62 ls [.int t2, .int t1, .ref (ad 9)]) := by
  obtain ⟨hx, hb, hr, hlk, hml, hown, hts, hK, hA⟩ := id C0
  intro H locs ls hw hl
  refine lv_sipush (v := (2196 : Int32)) hx hb d_Tw_useBit_62 (by decide) ?_
  obtain ⟨r5, er5, h⟩ := ok_b h
  refine z_vv (rest := []) C0 hw (c_Ar_settle t1 t2 (2196 : Int32) q r5 er5) mw_Ar_settle ml_Tw_124 9 rfl ⟨Nat.le_of_ble_eq_true rfl, Nat.le_of_ble_eq_true rfl⟩ ⟨Nat.le_refl 0, Nat.le_refl 0⟩ rfl hl.1 rfl (Nat.le_of_ble_eq_true rfl) d_Tw_useBit_65 (fun H locs hw => ?_)
  refine lv_iload_n hx hb d_Tw_useBit_68 rfl (lv_at hl 1 rfl) ?_
  refine lv_iconst (v := (1 : Int32)) hx hb d_Tw_useBit_69 (by decide) ?_
  refine lv_icmp_ne (tgt := 88) hx hb d_Tw_useBit_70 (by decide) (fun c6 => ?_) (fun c6 => ?_)
  · have h := ok_f h c6
    refine lv_iload_n hx hb d_Tw_useBit_88 rfl (lv_at hl 1 rfl) ?_
    refine lv_iconst (v := (2 : Int32)) hx hb d_Tw_useBit_89 (by decide) ?_
    refine lv_icmp_ne (tgt := 112) hx hb d_Tw_useBit_90 (by decide) (fun c7 => ?_) (fun c7 => ?_)
    · have h := ok_f h c7
      refine lv_iload_n hx hb d_Tw_useBit_112 rfl (lv_at hl 1 rfl) ?_
      refine lv_iconst (v := (3 : Int32)) hx hb d_Tw_useBit_113 (by decide) ?_
      refine lv_icmp_ne (tgt := 129) hx hb d_Tw_useBit_114 (by decide) (fun c8 => ?_) (fun c8 => ?_)
      · have h := ok_f h c8
        exact w_Tw_useBit_129 o C0 r5 h H locs ls hw (lv_sub hl [] rfl)
      · have h := ok_t h c8
        refine lv_aload_n hx hb d_Tw_useBit_117 rfl (lv_at hl 0 rfl) ?_
        refine gfK_20_operands C0 hw fl_Tw_15 d_Tw_useBit_118 ?_
        refine lv_lload hx hb d_Tw_useBit_121 (lv_at hl 2 rfl) ?_
        refine lv_lload hx hb d_Tw_useBit_123 (lv_at hl 3 rfl) ?_
        refine lv_lxor hx hb d_Tw_useBit_125 ?_
        obtain ⟨r9, er9, h⟩ := ok_b h
        refine z_vv (rest := []) C0 hw (c_Op_put (x4 ^^^ x6) r5 r9 er9) mw_Op_put ml_Tw_43 6 rfl ⟨Nat.le_of_ble_eq_true rfl, Nat.le_of_ble_eq_true rfl⟩ ⟨Nat.le_refl 0, Nat.le_refl 0⟩ rfl hl.1 rfl (Nat.le_of_ble_eq_true rfl) d_Tw_useBit_126 (fun H locs hw => ?_)
        exact w_Tw_useBit_129 o C0 r9 h H locs ls hw (lv_sub hl [] rfl)
    · have h := ok_t h c7
      refine lv_aload_n hx hb d_Tw_useBit_93 rfl (lv_at hl 0 rfl) ?_
      refine gfK_20_operands C0 hw fl_Tw_15 d_Tw_useBit_94 ?_
      refine lv_lload hx hb d_Tw_useBit_97 (lv_at hl 2 rfl) ?_
      refine lv_lload hx hb d_Tw_useBit_99 (lv_at hl 3 rfl) ?_
      refine lv_ldc2 (own := z_RTw) hx hb hown (hts _ kl_Tw_128) d_Tw_useBit_101 ?_
      refine lv_lxor hx hb d_Tw_useBit_104 ?_
      refine lv_land hx hb d_Tw_useBit_105 ?_
      obtain ⟨r10, er10, h⟩ := ok_b h
      refine z_vv (rest := []) C0 hw (c_Op_put (x4 &&& (x6 ^^^ (-1 : Int64))) r5 r10 er10) mw_Op_put ml_Tw_43 6 rfl ⟨Nat.le_of_ble_eq_true rfl, Nat.le_of_ble_eq_true rfl⟩ ⟨Nat.le_refl 0, Nat.le_refl 0⟩ rfl hl.1 rfl (Nat.le_of_ble_eq_true rfl) d_Tw_useBit_106 (fun H locs hw => ?_)
      refine lv_goto (tgt := 129) hx hb d_Tw_useBit_109 (by decide) ?_
      exact w_Tw_useBit_129 o C0 r10 h H locs ls hw (lv_sub hl [] rfl)
  · have h := ok_t h c6
    refine lv_aload_n hx hb d_Tw_useBit_73 rfl (lv_at hl 0 rfl) ?_
    refine gfK_20_operands C0 hw fl_Tw_15 d_Tw_useBit_74 ?_
    refine lv_lload hx hb d_Tw_useBit_77 (lv_at hl 2 rfl) ?_
    refine lv_lload hx hb d_Tw_useBit_79 (lv_at hl 3 rfl) ?_
    refine lv_lor hx hb d_Tw_useBit_81 ?_
    obtain ⟨r11, er11, h⟩ := ok_b h
    refine z_vv (rest := []) C0 hw (c_Op_put (x4 ||| x6) r5 r11 er11) mw_Op_put ml_Tw_43 6 rfl ⟨Nat.le_of_ble_eq_true rfl, Nat.le_of_ble_eq_true rfl⟩ ⟨Nat.le_refl 0, Nat.le_refl 0⟩ rfl hl.1 rfl (Nat.le_of_ble_eq_true rfl) d_Tw_useBit_82 (fun H locs hw => ?_)
    refine lv_goto (tgt := 129) hx hb d_Tw_useBit_85 (by decide) ?_
    exact w_Tw_useBit_129 o C0 r11 h H locs ls hw (lv_sub hl [] rfl)
set_option maxHeartbeats 4000000 in
set_option maxRecDepth 100000 in
theorem w_Tw_useBit_45 {p : Program} {l : Launch} {e : Env} {s : State} {m : MethodId} {args : Array Value} {below : List Frame} {meth : Method} {c : Code} {D : va_G} {A : Nat → Prop} {ad : Nat → Nat} {ca : Nat → ClassId} (o : z_Sg) (C0 : z_cx z_RTw b_Tw_useBit 9 none D (z_Kt ca) A p s m args meth c) (q : z_Sg) (x1 : Int32) (x4 : Int64) (x6 : Int64) (t0 : Int32) (h : k_Tw_useBit_45 x1 x4 x6 t0 q = some o) : ∀ (H : Heap) (locs : List Loc) (ls : Array Slot), z_wd D (z_K ad ca q) A s H locs → lv_has ls 9 [(0, .ref (ad 20)), (1, .int x1), (4, .long x4), (6, .long x6)] → W p l e (z_rm 3 72) s m args below meth c H locs 0 0 (z_qv below D (z_Kt ca) (z_K ad ca o) A s args) (F0 m 45 ls [.int t0]) := by
  obtain ⟨hx, hb, hr, hlk, hml, hown, hts, hK, hA⟩ := id C0
  intro H locs ls hw hl
  refine lv_istore (lv' := [(8, .int t0), (0, .ref (ad 20)), (1, .int x1), (4, .long x4), (6, .long x6)]) hx hb d_Tw_useBit_45 hl (by decide) rfl (fun ls hl => ?_)
  refine lv_aload_n hx hb d_Tw_useBit_47 rfl (lv_at hl 1 rfl) ?_
  refine gfK_20_arithmetic C0 hw fl_Tw_19 d_Tw_useBit_48 ?_
  refine lv_iconst (v := (1 : Int32)) hx hb d_Tw_useBit_51 (by decide) ?_
  refine lv_iload hx hb d_Tw_useBit_52 (lv_at hl 0 rfl) ?_
  refine lv_if_eq (tgt := 61) hx hb d_Tw_useBit_54 (by decide) (fun c4 => ?_) (fun c4 => ?_)
  · have h := ok_t h c4
    refine lv_iconst (v := (0 : Int32)) hx hb d_Tw_useBit_61 (by decide) ?_
    exact w_Tw_useBit_62 o C0 q x1 x4 x6 (1 : Int32) (0 : Int32) h H locs ls hw (lv_sub hl [1, 2, 3, 4] rfl)
  · have h := ok_f h c4
    refine lv_iconst (v := (1 : Int32)) hx hb d_Tw_useBit_57 (by decide) ?_
    refine lv_goto (tgt := 62) hx hb d_Tw_useBit_58 (by decide) ?_
    exact w_Tw_useBit_62 o C0 q x1 x4 x6 (1 : Int32) (1 : Int32) h H locs ls hw (lv_sub hl [1, 2, 3, 4] rfl)
set_option maxHeartbeats 4000000 in
set_option maxRecDepth 100000 in
theorem c_Tw_useBit {l : Launch} {D : va_G} {ad : Nat → Nat} {ca : Nat → ClassId} (x1 : Int32) (x2 : Int64) (q : z_Sg) (o : z_Sg) (h : f_Tw_useBit x1 x2 q = some o) : z_cv l y_Tw_useBit b_Tw_useBit 9 none 3 72 D (z_Kt ca) (z_K ad ca q) (z_K ad ca o) [.ref (ad 20), .int x1, .long x2] := by
  refine z_cv_of (own := z_RTw) (by decide) rfl ?_
  intro p e s m below meth c A C0 hw
  obtain ⟨hx, hb, hr, hlk, hml, hown, hts, hK, hA⟩ := id C0
  generalize hH : s.heap = H at hw ⊢
  generalize hlo : ([] : List Loc) = locs at hw ⊢
  refine z_entry (lv := [(0, .ref (ad 20)), (1, .int x1), (2, .long x2)]) (Nat.le_of_ble_eq_true rfl) rfl (fun ls hl => ?_)
  unfold f_Tw_useBit at h
  refine lv_aload_n hx hb d_Tw_useBit_0 rfl (lv_at hl 0 rfl) ?_
  refine gfK_20_operands C0 hw fl_Tw_15 d_Tw_useBit_1 ?_
  obtain ⟨r1, er1, h⟩ := ok_b h
  refine z_vl (rest := []) C0 hw (c_Op_value q r1 er1) mw_Op_value ml_Tw_75 6 rfl ⟨Nat.le_of_ble_eq_true rfl, Nat.le_of_ble_eq_true rfl⟩ ⟨Nat.le_refl 0, Nat.le_refl 0⟩ rfl hl.1 rfl (Nat.le_of_ble_eq_true rfl) d_Tw_useBit_4 (fun H locs hw => ?_)
  refine lv_lstore (lv' := [(4, .long r1), (0, .ref (ad 20)), (1, .int x1), (2, .long x2)]) hx hb d_Tw_useBit_7 hl (by decide) rfl (fun ls hl => ?_)
  refine lv_lconst (v := (1 : Int64)) hx hb d_Tw_useBit_9 (by decide) ?_
  refine lv_lload_n hx hb d_Tw_useBit_10 rfl (lv_at hl 3 rfl) ?_
  refine lv_ldc2 (own := z_RTw) hx hb hown (hts _ kl_Tw_122) d_Tw_useBit_11 ?_
  refine lv_aload_n hx hb d_Tw_useBit_14 rfl (lv_at hl 1 rfl) ?_
  refine gfK_20_operands C0 hw fl_Tw_15 d_Tw_useBit_15 ?_
  refine gfK_6_bytes C0 hw fl_Tw_95 d_Tw_useBit_18 ?_
  refine lv_i2l hx hb d_Tw_useBit_21 rfl ?_
  refine lv_lmul hx hb d_Tw_useBit_22 ?_
  refine lv_lconst (v := (1 : Int64)) hx hb d_Tw_useBit_23 (by decide) ?_
  refine lv_lsub hx hb d_Tw_useBit_24 ?_
  refine lv_land hx hb d_Tw_useBit_25 ?_
  refine lv_l2i hx hb d_Tw_useBit_26 rfl ?_
  refine lv_lshl (v := (z_lshl (1 : Int64) ((x2 &&& (((8 : Int64) * ((z_gI q 15).toInt64)) - (1 : Int64))).toInt32))) hx hb d_Tw_useBit_27 rfl ?_
  obtain ⟨n2, en2, h⟩ := ok_n h
  refine z_tl en2 ?_
  refine lv_lstore (lv' := [(6, .long n2), (4, .long r1), (0, .ref (ad 20)), (1, .int x1), (2, .long x2)]) hx hb d_Tw_useBit_28 hl (by decide) rfl (fun ls hl => ?_)
  refine lv_lload hx hb d_Tw_useBit_30 (lv_at hl 1 rfl) ?_
  refine lv_lload hx hb d_Tw_useBit_32 (lv_at hl 0 rfl) ?_
  refine lv_land hx hb d_Tw_useBit_34 ?_
  refine lv_lconst (v := (0 : Int64)) hx hb d_Tw_useBit_35 (by decide) ?_
  refine W.lcmp hx hb d_Tw_useBit_36 ?_
  refine lv_if_eq (tgt := 44) hx hb d_Tw_useBit_37 (by decide) (fun c3 => ?_) (fun c3 => ?_)
  · have h := ok_t h ((lg_cmp_eq _ _).mp c3)
    refine lv_iconst (v := (0 : Int32)) hx hb d_Tw_useBit_44 (by decide) ?_
    exact w_Tw_useBit_45 o C0 q x1 r1 n2 (0 : Int32) h H locs ls hw (lv_sub hl [2, 3, 1, 0] rfl)
  · have h := ok_f h (fun z => c3 ((lg_cmp_eq _ _).mpr z))
    refine lv_iconst (v := (1 : Int32)) hx hb d_Tw_useBit_40 (by decide) ?_
    refine lv_goto (tgt := 45) hx hb d_Tw_useBit_41 (by decide) ?_
    exact w_Tw_useBit_45 o C0 q x1 r1 n2 (1 : Int32) h H locs ls hw (lv_sub hl [2, 3, 1, 0] rfl)
def f_Wi_upperHalf (x0 : Int64) (x2 : Int64) (q : z_Sg) : Option Int64 :=
  z_nm ((x0 &&& (4294967295 : Int64))) (fun n1 => z_nm ((z_lushr x0 (32 : Int32))) (fun n2 => z_nm ((x2 &&& (4294967295 : Int64))) (fun n3 => z_nm ((z_lushr x2 (32 : Int32))) (fun n4 => z_nm (((n2 * n3) + (z_lushr (n1 * n3) (32 : Int32)))) (fun n5 => z_nm (((n1 * n4) + (n5 &&& (4294967295 : Int64)))) (fun n6 => some (((n2 * n4) + (z_lushr n5 (32 : Int32))) + (z_lushr n6 (32 : Int32)))))))))
set_option maxHeartbeats 4000000 in
set_option maxRecDepth 100000 in
theorem c_Wi_upperHalf {l : Launch} {D : va_G} {ad : Nat → Nat} {ca : Nat → ClassId} (x0 : Int64) (x2 : Int64) (q : z_Sg) (o : Int64) (h : f_Wi_upperHalf x0 x2 q = some o) : z_cl l y_Wi_upperHalf b_Wi_upperHalf 16 (some .long) 0 0 D (z_Kt ca) (z_K ad ca q) (z_K ad ca q) [.long x0, .long x2] o := by
  refine z_cl_of (own := z_RWi) (by decide) rfl ?_
  intro p e s m below meth c A C0 hw
  obtain ⟨hx, hb, hr, hlk, hml, hown, hts, hK, hA⟩ := id C0
  generalize hH : s.heap = H at hw ⊢
  generalize hlo : ([] : List Loc) = locs at hw ⊢
  refine z_entry (lv := [(0, .long x0), (2, .long x2)]) (Nat.le_of_ble_eq_true rfl) rfl (fun ls hl => ?_)
  unfold f_Wi_upperHalf at h
  refine lv_lload_n hx hb d_Wi_upperHalf_0 rfl (lv_at hl 0 rfl) ?_
  refine lv_ldc2 (own := z_RWi) hx hb hown (hts _ kl_Wi_40) d_Wi_upperHalf_1 ?_
  refine lv_land hx hb d_Wi_upperHalf_4 ?_
  obtain ⟨n1, en1, h⟩ := ok_n h
  refine z_tl en1 ?_
  refine lv_lstore (lv' := [(4, .long n1), (0, .long x0), (2, .long x2)]) hx hb d_Wi_upperHalf_5 hl (by decide) rfl (fun ls hl => ?_)
  refine lv_lload_n hx hb d_Wi_upperHalf_7 rfl (lv_at hl 1 rfl) ?_
  refine lv_bipush (v := (32 : Int32)) hx hb d_Wi_upperHalf_8 (by decide) ?_
  refine lv_lushr (v := (z_lushr x0 (32 : Int32))) hx hb d_Wi_upperHalf_10 rfl ?_
  obtain ⟨n2, en2, h⟩ := ok_n h
  refine z_tl en2 ?_
  refine lv_lstore (lv' := [(6, .long n2), (4, .long n1), (0, .long x0), (2, .long x2)]) hx hb d_Wi_upperHalf_11 hl (by decide) rfl (fun ls hl => ?_)
  refine lv_lload_n hx hb d_Wi_upperHalf_13 rfl (lv_at hl 3 rfl) ?_
  refine lv_ldc2 (own := z_RWi) hx hb hown (hts _ kl_Wi_40) d_Wi_upperHalf_14 ?_
  refine lv_land hx hb d_Wi_upperHalf_17 ?_
  obtain ⟨n3, en3, h⟩ := ok_n h
  refine z_tl en3 ?_
  refine lv_lstore (lv' := [(8, .long n3), (6, .long n2), (4, .long n1), (0, .long x0), (2, .long x2)]) hx hb d_Wi_upperHalf_18 hl (by decide) rfl (fun ls hl => ?_)
  refine lv_lload_n hx hb d_Wi_upperHalf_20 rfl (lv_at hl 4 rfl) ?_
  refine lv_bipush (v := (32 : Int32)) hx hb d_Wi_upperHalf_21 (by decide) ?_
  refine lv_lushr (v := (z_lushr x2 (32 : Int32))) hx hb d_Wi_upperHalf_23 rfl ?_
  obtain ⟨n4, en4, h⟩ := ok_n h
  refine z_tl en4 ?_
  refine lv_lstore (lv' := [(10, .long n4), (8, .long n3), (6, .long n2), (4, .long n1), (0, .long x0), (2, .long x2)]) hx hb d_Wi_upperHalf_24 hl (by decide) rfl (fun ls hl => ?_)
  refine lv_lload hx hb d_Wi_upperHalf_26 (lv_at hl 2 rfl) ?_
  refine lv_lload hx hb d_Wi_upperHalf_28 (lv_at hl 1 rfl) ?_
  refine lv_lmul hx hb d_Wi_upperHalf_30 ?_
  refine lv_lload hx hb d_Wi_upperHalf_31 (lv_at hl 3 rfl) ?_
  refine lv_lload hx hb d_Wi_upperHalf_33 (lv_at hl 1 rfl) ?_
  refine lv_lmul hx hb d_Wi_upperHalf_35 ?_
  refine lv_bipush (v := (32 : Int32)) hx hb d_Wi_upperHalf_36 (by decide) ?_
  refine lv_lushr (v := (z_lushr (n1 * n3) (32 : Int32))) hx hb d_Wi_upperHalf_38 rfl ?_
  refine lv_ladd hx hb d_Wi_upperHalf_39 ?_
  obtain ⟨n5, en5, h⟩ := ok_n h
  refine z_tl en5 ?_
  refine lv_lstore (lv' := [(12, .long n5), (10, .long n4), (8, .long n3), (6, .long n2), (4, .long n1), (0, .long x0), (2, .long x2)]) hx hb d_Wi_upperHalf_40 hl (by decide) rfl (fun ls hl => ?_)
  refine lv_lload hx hb d_Wi_upperHalf_42 (lv_at hl 4 rfl) ?_
  refine lv_lload hx hb d_Wi_upperHalf_44 (lv_at hl 1 rfl) ?_
  refine lv_lmul hx hb d_Wi_upperHalf_46 ?_
  refine lv_lload hx hb d_Wi_upperHalf_47 (lv_at hl 0 rfl) ?_
  refine lv_ldc2 (own := z_RWi) hx hb hown (hts _ kl_Wi_40) d_Wi_upperHalf_49 ?_
  refine lv_land hx hb d_Wi_upperHalf_52 ?_
  refine lv_ladd hx hb d_Wi_upperHalf_53 ?_
  obtain ⟨n6, en6, h⟩ := ok_n h
  refine z_tl en6 ?_
  refine lv_lstore (lv' := [(14, .long n6), (12, .long n5), (10, .long n4), (8, .long n3), (6, .long n2), (4, .long n1), (0, .long x0), (2, .long x2)]) hx hb d_Wi_upperHalf_54 hl (by decide) rfl (fun ls hl => ?_)
  refine lv_lload hx hb d_Wi_upperHalf_56 (lv_at hl 4 rfl) ?_
  refine lv_lload hx hb d_Wi_upperHalf_58 (lv_at hl 2 rfl) ?_
  refine lv_lmul hx hb d_Wi_upperHalf_60 ?_
  refine lv_lload hx hb d_Wi_upperHalf_61 (lv_at hl 1 rfl) ?_
  refine lv_bipush (v := (32 : Int32)) hx hb d_Wi_upperHalf_63 (by decide) ?_
  refine lv_lushr (v := (z_lushr n5 (32 : Int32))) hx hb d_Wi_upperHalf_65 rfl ?_
  refine lv_ladd hx hb d_Wi_upperHalf_66 ?_
  refine lv_lload hx hb d_Wi_upperHalf_67 (lv_at hl 0 rfl) ?_
  refine lv_bipush (v := (32 : Int32)) hx hb d_Wi_upperHalf_69 (by decide) ?_
  refine lv_lushr (v := (z_lushr n6 (32 : Int32))) hx hb d_Wi_upperHalf_71 rfl ?_
  refine lv_ladd hx hb d_Wi_upperHalf_72 ?_
  have ho := Option.some.inj h
  subst ho
  exact z_rtl C0 hw d_Wi_upperHalf_73
def k_Wi_multiply_193 (t1 : Int32) (t2 : Int32) (q : z_Sg) : Option z_Sg :=
  (f_Ar_settle t1 t2 (212 : Int32) q).bind (fun r11 => some r11)
def k_Wi_multiply_172 (t0 : Int32) (q : z_Sg) : Option z_Sg :=
  if t0 = 0 then (k_Wi_multiply_193 (2049 : Int32) (0 : Int32) q) else (k_Wi_multiply_193 (2049 : Int32) (2049 : Int32) q)
def k_Wi_multiply_163 (t0 : Int64) (t1 : Int64) (q : z_Sg) : Option z_Sg :=
  if t0 = t1 then (k_Wi_multiply_172 (0 : Int32) q) else (k_Wi_multiply_172 (1 : Int32) q)
def k_Wi_multiply_143 (x5 : Int32) (t0 : Int32) (q : z_Sg) : Option z_Sg :=
  if t0 = 0 then (k_Wi_multiply_163 (z_gL q 12) (0 : Int64) q) else ((f_Ar_maskOf x5 q).bind (fun r12 => k_Wi_multiply_163 (z_gL q 12) r12 q))
def k_Wi_multiply_142 (x5 : Int32) (q : z_Sg) : Option z_Sg :=
  k_Wi_multiply_143 x5 (0 : Int32) q
def k_Wi_multiply_119 (x5 : Int32) (x6 : Int32) (q : z_Sg) : Option z_Sg :=
  if x6 = 0 then (k_Wi_multiply_142 x5 q) else ((f_Ar_signed (z_gL q 11) x5 q).bind (fun r13 => if (0 : Int64) ≤ r13 then (k_Wi_multiply_142 x5 q) else (k_Wi_multiply_143 x5 (1 : Int32) q)))
def k_Wi_multiply_87 (x5 : Int32) (x6 : Int32) (t0 : Int64) (q : z_Sg) : Option z_Sg :=
  (f_Ar_maskOf x5 q).bind (fun r3 => z_nm (z_sL q 11 (t0 &&& r3)) (fun q4 => (f_Ar_maskOf x5 q4).bind (fun r5 => z_nm (z_sL q4 12 ((z_lushr t0 ((8 : Int32) * x5)) &&& r5)) (fun q6 => k_Wi_multiply_119 x5 x6 q6))))
def k_Wi_multiply_55 (x5 : Int32) (x6 : Int32) (t1 : Int64) (t2 : Int64) (t3 : Int64) (q : z_Sg) : Option z_Sg :=
  z_nm (z_sL q 12 (t1 - (t2 + t3))) (fun q23 => k_Wi_multiply_119 x5 x6 q23)
def k_Wi_multiply_44 (x1 : Int64) (x3 : Int64) (x5 : Int32) (x6 : Int32) (t1 : Int64) (t2 : Int64) (q : z_Sg) : Option z_Sg :=
  if (0 : Int64) ≤ x3 then (k_Wi_multiply_55 x5 x6 t1 t2 (0 : Int64) q) else (k_Wi_multiply_55 x5 x6 t1 t2 x1 q)
def f_Wi_multiply (x1 : Int64) (x3 : Int64) (x5 : Int32) (x6 : Int32) (q : z_Sg) : Option z_Sg :=
  if x5 = (8 : Int32) then (z_nm (z_sL q 11 (x1 * x3)) (fun q17 => (f_Wi_upperHalf x1 x3 q17).bind (fun r18 => z_nm (z_sL q17 12 r18) (fun q19 => if x6 = 0 then (k_Wi_multiply_119 x5 x6 q19) else (if (0 : Int64) ≤ x1 then (k_Wi_multiply_44 x1 x3 x5 x6 (z_gL q19 12) (0 : Int64) q19) else (k_Wi_multiply_44 x1 x3 x5 x6 (z_gL q19 12) x3 q19)))))) else (if x6 = 0 then (k_Wi_multiply_87 x5 x6 (x1 * x3) q) else ((f_Ar_signed x1 x5 q).bind (fun r15 => (f_Ar_signed x3 x5 q).bind (fun r16 => k_Wi_multiply_87 x5 x6 (r15 * r16) q))))
set_option maxHeartbeats 4000000 in
set_option maxRecDepth 100000 in
theorem w_Wi_multiply_193 {p : Program} {l : Launch} {e : Env} {s : State} {m : MethodId} {args : Array Value} {below : List Frame} {meth : Method} {c : Code} {D : va_G} {A : Nat → Prop} {ad : Nat → Nat} {ca : Nat → ClassId} (o : z_Sg) (C0 : z_cx z_RWi b_Wi_multiply 9 none D (z_Kt ca) A p s m args meth c) (q : z_Sg) (t1 : Int32) (t2 : Int32) (h : k_Wi_multiply_193 t1 t2 q = some o) : ∀ (H : Heap) (locs : List Loc) (ls : Array Slot), z_wd D (z_K ad ca q) A s H locs → lv_has ls 9 [] → W p l e (z_rm 1 35) s m args below meth c H locs 0 0 (z_qv below D (z_Kt ca) (z_K ad ca o) A s args) (F0 m 193 ls [.int t2, .int t1, .ref (ad 9)]) := by
  obtain ⟨hx, hb, hr, hlk, hml, hown, hts, hK, hA⟩ := id C0
  intro H locs ls hw hl
  refine lv_sipush (v := (212 : Int32)) hx hb d_Wi_multiply_193 (by decide) ?_
  obtain ⟨r11, er11, h⟩ := ok_b h
  refine z_vv (rest := []) C0 hw (c_Ar_settle t1 t2 (212 : Int32) q r11 er11) mw_Ar_settle ml_Wi_36 9 rfl ⟨Nat.le_of_ble_eq_true rfl, Nat.le_of_ble_eq_true rfl⟩ ⟨Nat.le_refl 0, Nat.le_refl 0⟩ rfl hl.1 rfl (Nat.le_of_ble_eq_true rfl) d_Wi_multiply_196 (fun H locs hw => ?_)
  have ho := Option.some.inj h
  subst ho
  exact z_rtv C0 hw d_Wi_multiply_199
set_option maxHeartbeats 4000000 in
set_option maxRecDepth 100000 in
theorem w_Wi_multiply_172 {p : Program} {l : Launch} {e : Env} {s : State} {m : MethodId} {args : Array Value} {below : List Frame} {meth : Method} {c : Code} {D : va_G} {A : Nat → Prop} {ad : Nat → Nat} {ca : Nat → ClassId} (o : z_Sg) (C0 : z_cx z_RWi b_Wi_multiply 9 none D (z_Kt ca) A p s m args meth c) (q : z_Sg) (t0 : Int32) (h : k_Wi_multiply_172 t0 q = some o) : ∀ (H : Heap) (locs : List Loc) (ls : Array Slot), z_wd D (z_K ad ca q) A s H locs → lv_has ls 9 [(0, .ref (ad 10))] → W p l e (z_rm 1 35) s m args below meth c H locs 0 0 (z_qv below D (z_Kt ca) (z_K ad ca o) A s args) (F0 m 172 ls [.int t0]) := by
  obtain ⟨hx, hb, hr, hlk, hml, hown, hts, hK, hA⟩ := id C0
  intro H locs ls hw hl
  refine lv_istore (lv' := [(8, .int t0), (0, .ref (ad 10))]) hx hb d_Wi_multiply_172 hl (by decide) rfl (fun ls hl => ?_)
  refine lv_aload_n hx hb d_Wi_multiply_174 rfl (lv_at hl 1 rfl) ?_
  refine gfK_10_arithmetic C0 hw fl_Wi_9 d_Wi_multiply_175 ?_
  refine lv_sipush (v := (2049 : Int32)) hx hb d_Wi_multiply_178 (by decide) ?_
  refine lv_iload hx hb d_Wi_multiply_181 (lv_at hl 0 rfl) ?_
  refine lv_if_eq (tgt := 192) hx hb d_Wi_multiply_183 (by decide) (fun c10 => ?_) (fun c10 => ?_)
  · have h := ok_t h c10
    refine lv_iconst (v := (0 : Int32)) hx hb d_Wi_multiply_192 (by decide) ?_
    exact w_Wi_multiply_193 o C0 q (2049 : Int32) (0 : Int32) h H locs ls hw (lv_sub hl [] rfl)
  · have h := ok_f h c10
    refine lv_sipush (v := (2049 : Int32)) hx hb d_Wi_multiply_186 (by decide) ?_
    refine lv_goto (tgt := 193) hx hb d_Wi_multiply_189 (by decide) ?_
    exact w_Wi_multiply_193 o C0 q (2049 : Int32) (2049 : Int32) h H locs ls hw (lv_sub hl [] rfl)
set_option maxHeartbeats 4000000 in
set_option maxRecDepth 100000 in
theorem w_Wi_multiply_163 {p : Program} {l : Launch} {e : Env} {s : State} {m : MethodId} {args : Array Value} {below : List Frame} {meth : Method} {c : Code} {D : va_G} {A : Nat → Prop} {ad : Nat → Nat} {ca : Nat → ClassId} (o : z_Sg) (C0 : z_cx z_RWi b_Wi_multiply 9 none D (z_Kt ca) A p s m args meth c) (q : z_Sg) (t0 : Int64) (t1 : Int64) (h : k_Wi_multiply_163 t0 t1 q = some o) : ∀ (H : Heap) (locs : List Loc) (ls : Array Slot), z_wd D (z_K ad ca q) A s H locs → lv_has ls 9 [(0, .ref (ad 10))] → W p l e (z_rm 1 35) s m args below meth c H locs 0 0 (z_qv below D (z_Kt ca) (z_K ad ca o) A s args) (F0 m 163 ls [.long t1, .long t0]) := by
  obtain ⟨hx, hb, hr, hlk, hml, hown, hts, hK, hA⟩ := id C0
  intro H locs ls hw hl
  refine W.lcmp hx hb d_Wi_multiply_163 ?_
  refine lv_if_eq (tgt := 171) hx hb d_Wi_multiply_164 (by decide) (fun c9 => ?_) (fun c9 => ?_)
  · have h := ok_t h ((lg_cmp_eq _ _).mp c9)
    refine lv_iconst (v := (0 : Int32)) hx hb d_Wi_multiply_171 (by decide) ?_
    exact w_Wi_multiply_172 o C0 q (0 : Int32) h H locs ls hw (lv_sub hl [0] rfl)
  · have h := ok_f h (fun z => c9 ((lg_cmp_eq _ _).mpr z))
    refine lv_iconst (v := (1 : Int32)) hx hb d_Wi_multiply_167 (by decide) ?_
    refine lv_goto (tgt := 172) hx hb d_Wi_multiply_168 (by decide) ?_
    exact w_Wi_multiply_172 o C0 q (1 : Int32) h H locs ls hw (lv_sub hl [0] rfl)
set_option maxHeartbeats 4000000 in
set_option maxRecDepth 100000 in
theorem w_Wi_multiply_143 {p : Program} {l : Launch} {e : Env} {s : State} {m : MethodId} {args : Array Value} {below : List Frame} {meth : Method} {c : Code} {D : va_G} {A : Nat → Prop} {ad : Nat → Nat} {ca : Nat → ClassId} (o : z_Sg) (C0 : z_cx z_RWi b_Wi_multiply 9 none D (z_Kt ca) A p s m args meth c) (q : z_Sg) (x5 : Int32) (t0 : Int32) (h : k_Wi_multiply_143 x5 t0 q = some o) : ∀ (H : Heap) (locs : List Loc) (ls : Array Slot), z_wd D (z_K ad ca q) A s H locs → lv_has ls 9 [(0, .ref (ad 10)), (5, .int x5)] → W p l e (z_rm 1 35) s m args below meth c H locs 0 0 (z_qv below D (z_Kt ca) (z_K ad ca o) A s args) (F0 m 143 ls [.int t0]) := by
  obtain ⟨hx, hb, hr, hlk, hml, hown, hts, hK, hA⟩ := id C0
  intro H locs ls hw hl
  refine lv_istore (lv' := [(7, .int t0), (0, .ref (ad 10)), (5, .int x5)]) hx hb d_Wi_multiply_143 hl (by decide) rfl (fun ls hl => ?_)
  refine lv_aload_n hx hb d_Wi_multiply_145 rfl (lv_at hl 1 rfl) ?_
  refine gfK_10_high C0 hw fl_Wi_23 d_Wi_multiply_146 ?_
  refine lv_iload hx hb d_Wi_multiply_149 (lv_at hl 0 rfl) ?_
  refine lv_if_eq (tgt := 162) hx hb d_Wi_multiply_151 (by decide) (fun c8 => ?_) (fun c8 => ?_)
  · have h := ok_t h c8
    refine lv_lconst (v := (0 : Int64)) hx hb d_Wi_multiply_162 (by decide) ?_
    exact w_Wi_multiply_163 o C0 q (z_gL q 12) (0 : Int64) h H locs ls hw (lv_sub hl [1] rfl)
  · have h := ok_f h c8
    refine lv_iload hx hb d_Wi_multiply_154 (lv_at hl 2 rfl) ?_
    obtain ⟨r12, er12, h⟩ := ok_b h
    refine z_sl (rest := [.long (z_gL q 12)]) C0 hw (c_Ar_maskOf x5 q r12 er12) mw_Ar_maskOf ml_Wi_32 ⟨Nat.le_of_ble_eq_true rfl, Nat.le_of_ble_eq_true rfl⟩ ⟨Nat.le_refl 0, Nat.le_refl 0⟩ rfl hl.1 rfl (Nat.le_of_ble_eq_true rfl) d_Wi_multiply_156 (fun H locs hw => ?_)
    refine lv_goto (tgt := 163) hx hb d_Wi_multiply_159 (by decide) ?_
    exact w_Wi_multiply_163 o C0 q (z_gL q 12) r12 h H locs ls hw (lv_sub hl [1] rfl)
set_option maxHeartbeats 4000000 in
set_option maxRecDepth 100000 in
theorem w_Wi_multiply_142 {p : Program} {l : Launch} {e : Env} {s : State} {m : MethodId} {args : Array Value} {below : List Frame} {meth : Method} {c : Code} {D : va_G} {A : Nat → Prop} {ad : Nat → Nat} {ca : Nat → ClassId} (o : z_Sg) (C0 : z_cx z_RWi b_Wi_multiply 9 none D (z_Kt ca) A p s m args meth c) (q : z_Sg) (x5 : Int32) (h : k_Wi_multiply_142 x5 q = some o) : ∀ (H : Heap) (locs : List Loc) (ls : Array Slot), z_wd D (z_K ad ca q) A s H locs → lv_has ls 9 [(0, .ref (ad 10)), (5, .int x5)] → W p l e (z_rm 1 35) s m args below meth c H locs 0 0 (z_qv below D (z_Kt ca) (z_K ad ca o) A s args) (F0 m 142 ls []) := by
  obtain ⟨hx, hb, hr, hlk, hml, hown, hts, hK, hA⟩ := id C0
  intro H locs ls hw hl
  refine lv_iconst (v := (0 : Int32)) hx hb d_Wi_multiply_142 (by decide) ?_
  exact w_Wi_multiply_143 o C0 q x5 (0 : Int32) h H locs ls hw (lv_sub hl [0, 1] rfl)
set_option maxHeartbeats 4000000 in
set_option maxRecDepth 100000 in
theorem w_Wi_multiply_119 {p : Program} {l : Launch} {e : Env} {s : State} {m : MethodId} {args : Array Value} {below : List Frame} {meth : Method} {c : Code} {D : va_G} {A : Nat → Prop} {ad : Nat → Nat} {ca : Nat → ClassId} (o : z_Sg) (C0 : z_cx z_RWi b_Wi_multiply 9 none D (z_Kt ca) A p s m args meth c) (q : z_Sg) (x5 : Int32) (x6 : Int32) (h : k_Wi_multiply_119 x5 x6 q = some o) : ∀ (H : Heap) (locs : List Loc) (ls : Array Slot), z_wd D (z_K ad ca q) A s H locs → lv_has ls 9 [(0, .ref (ad 10)), (5, .int x5), (6, .int x6)] → W p l e (z_rm 1 35) s m args below meth c H locs 0 0 (z_qv below D (z_Kt ca) (z_K ad ca o) A s args) (F0 m 119 ls []) := by
  obtain ⟨hx, hb, hr, hlk, hml, hown, hts, hK, hA⟩ := id C0
  intro H locs ls hw hl
  refine lv_iload hx hb d_Wi_multiply_119 (lv_at hl 2 rfl) ?_
  refine lv_if_eq (tgt := 142) hx hb d_Wi_multiply_121 (by decide) (fun c7 => ?_) (fun c7 => ?_)
  · have h := ok_t h c7
    exact w_Wi_multiply_142 o C0 q x5 h H locs ls hw (lv_sub hl [0, 1] rfl)
  · have h := ok_f h c7
    refine lv_aload_n hx hb d_Wi_multiply_124 rfl (lv_at hl 0 rfl) ?_
    refine gfK_10_low C0 hw fl_Wi_15 d_Wi_multiply_125 ?_
    refine lv_iload hx hb d_Wi_multiply_128 (lv_at hl 1 rfl) ?_
    obtain ⟨r13, er13, h⟩ := ok_b h
    refine z_sl (rest := []) C0 hw (c_Ar_signed (z_gL q 11) x5 q r13 er13) mw_Ar_signed ml_Wi_26 ⟨Nat.le_of_ble_eq_true rfl, Nat.le_of_ble_eq_true rfl⟩ ⟨Nat.le_refl 0, Nat.le_refl 0⟩ rfl hl.1 rfl (Nat.le_of_ble_eq_true rfl) d_Wi_multiply_130 (fun H locs hw => ?_)
    refine lv_lconst (v := (0 : Int64)) hx hb d_Wi_multiply_133 (by decide) ?_
    refine W.lcmp hx hb d_Wi_multiply_134 ?_
    refine lv_if_ge (tgt := 142) hx hb d_Wi_multiply_135 (by decide) (fun c14 => ?_) (fun c14 => ?_)
    · have h := ok_t h ((lg_cmp_ge _ _).mp c14)
      exact w_Wi_multiply_142 o C0 q x5 h H locs ls hw (lv_sub hl [0, 1] rfl)
    · have h := ok_f h (fun z => c14 ((lg_cmp_ge _ _).mpr z))
      refine lv_iconst (v := (1 : Int32)) hx hb d_Wi_multiply_138 (by decide) ?_
      refine lv_goto (tgt := 143) hx hb d_Wi_multiply_139 (by decide) ?_
      exact w_Wi_multiply_143 o C0 q x5 (1 : Int32) h H locs ls hw (lv_sub hl [0, 1] rfl)
set_option maxHeartbeats 4000000 in
set_option maxRecDepth 100000 in
theorem w_Wi_multiply_87 {p : Program} {l : Launch} {e : Env} {s : State} {m : MethodId} {args : Array Value} {below : List Frame} {meth : Method} {c : Code} {D : va_G} {A : Nat → Prop} {ad : Nat → Nat} {ca : Nat → ClassId} (o : z_Sg) (C0 : z_cx z_RWi b_Wi_multiply 9 none D (z_Kt ca) A p s m args meth c) (q : z_Sg) (x5 : Int32) (x6 : Int32) (t0 : Int64) (h : k_Wi_multiply_87 x5 x6 t0 q = some o) : ∀ (H : Heap) (locs : List Loc) (ls : Array Slot), z_wd D (z_K ad ca q) A s H locs → lv_has ls 9 [(0, .ref (ad 10)), (5, .int x5), (6, .int x6)] → W p l e (z_rm 1 35) s m args below meth c H locs 0 0 (z_qv below D (z_Kt ca) (z_K ad ca o) A s args) (F0 m 87 ls [.long t0]) := by
  obtain ⟨hx, hb, hr, hlk, hml, hown, hts, hK, hA⟩ := id C0
  intro H locs ls hw hl
  refine lv_lstore (lv' := [(7, .long t0), (0, .ref (ad 10)), (5, .int x5), (6, .int x6)]) hx hb d_Wi_multiply_87 hl (by decide) rfl (fun ls hl => ?_)
  refine lv_aload_n hx hb d_Wi_multiply_89 rfl (lv_at hl 1 rfl) ?_
  refine lv_lload hx hb d_Wi_multiply_90 (lv_at hl 0 rfl) ?_
  refine lv_iload hx hb d_Wi_multiply_92 (lv_at hl 2 rfl) ?_
  obtain ⟨r3, er3, h⟩ := ok_b h
  refine z_sl (rest := [.long t0, .ref (ad 10)]) C0 hw (c_Ar_maskOf x5 q r3 er3) mw_Ar_maskOf ml_Wi_32 ⟨Nat.le_of_ble_eq_true rfl, Nat.le_of_ble_eq_true rfl⟩ ⟨Nat.le_refl 0, Nat.le_refl 0⟩ rfl hl.1 rfl (Nat.le_of_ble_eq_true rfl) d_Wi_multiply_94 (fun H locs hw => ?_)
  refine lv_land hx hb d_Wi_multiply_97 ?_
  refine pfK_10_low C0 hw fl_Wi_15 d_Wi_multiply_98 (fun H locs hw => ?_)
  obtain ⟨q4, eq4, h⟩ := ok_n h
  rw [← eq4] at hw
  refine lv_aload_n hx hb d_Wi_multiply_101 rfl (lv_at hl 1 rfl) ?_
  refine lv_lload hx hb d_Wi_multiply_102 (lv_at hl 0 rfl) ?_
  refine lv_bipush (v := (8 : Int32)) hx hb d_Wi_multiply_104 (by decide) ?_
  refine lv_iload hx hb d_Wi_multiply_106 (lv_at hl 2 rfl) ?_
  refine lv_imul hx hb d_Wi_multiply_108 ?_
  refine lv_lushr (v := (z_lushr t0 ((8 : Int32) * x5))) hx hb d_Wi_multiply_109 rfl ?_
  refine lv_iload hx hb d_Wi_multiply_110 (lv_at hl 2 rfl) ?_
  obtain ⟨r5, er5, h⟩ := ok_b h
  refine z_sl (rest := [.long (z_lushr t0 ((8 : Int32) * x5)), .ref (ad 10)]) C0 hw (c_Ar_maskOf x5 q4 r5 er5) mw_Ar_maskOf ml_Wi_32 ⟨Nat.le_of_ble_eq_true rfl, Nat.le_of_ble_eq_true rfl⟩ ⟨Nat.le_refl 0, Nat.le_refl 0⟩ rfl hl.1 rfl (Nat.le_of_ble_eq_true rfl) d_Wi_multiply_112 (fun H locs hw => ?_)
  refine lv_land hx hb d_Wi_multiply_115 ?_
  refine pfK_10_high C0 hw fl_Wi_23 d_Wi_multiply_116 (fun H locs hw => ?_)
  obtain ⟨q6, eq6, h⟩ := ok_n h
  rw [← eq6] at hw
  exact w_Wi_multiply_119 o C0 q6 x5 x6 h H locs ls hw (lv_sub hl [1, 2, 3] rfl)
set_option maxHeartbeats 4000000 in
set_option maxRecDepth 100000 in
theorem w_Wi_multiply_55 {p : Program} {l : Launch} {e : Env} {s : State} {m : MethodId} {args : Array Value} {below : List Frame} {meth : Method} {c : Code} {D : va_G} {A : Nat → Prop} {ad : Nat → Nat} {ca : Nat → ClassId} (o : z_Sg) (C0 : z_cx z_RWi b_Wi_multiply 9 none D (z_Kt ca) A p s m args meth c) (q : z_Sg) (x5 : Int32) (x6 : Int32) (t1 : Int64) (t2 : Int64) (t3 : Int64) (h : k_Wi_multiply_55 x5 x6 t1 t2 t3 q = some o) : ∀ (H : Heap) (locs : List Loc) (ls : Array Slot), z_wd D (z_K ad ca q) A s H locs → lv_has ls 9 [(0, .ref (ad 10)), (5, .int x5), (6, .int x6)] → W p l e (z_rm 1 35) s m args below meth c H locs 0 0 (z_qv below D (z_Kt ca) (z_K ad ca o) A s args) (F0 m 55 ls [.long t3, .long t2, .long t1, .ref (ad 10)]) := by
  obtain ⟨hx, hb, hr, hlk, hml, hown, hts, hK, hA⟩ := id C0
  intro H locs ls hw hl
  refine lv_ladd hx hb d_Wi_multiply_55 ?_
  refine lv_lsub hx hb d_Wi_multiply_56 ?_
  refine pfK_10_high C0 hw fl_Wi_23 d_Wi_multiply_57 (fun H locs hw => ?_)
  obtain ⟨q23, eq23, h⟩ := ok_n h
  rw [← eq23] at hw
  refine lv_goto (tgt := 119) hx hb d_Wi_multiply_60 (by decide) ?_
  exact w_Wi_multiply_119 o C0 q23 x5 x6 h H locs ls hw (lv_sub hl [0, 1, 2] rfl)
set_option maxHeartbeats 4000000 in
set_option maxRecDepth 100000 in
theorem w_Wi_multiply_44 {p : Program} {l : Launch} {e : Env} {s : State} {m : MethodId} {args : Array Value} {below : List Frame} {meth : Method} {c : Code} {D : va_G} {A : Nat → Prop} {ad : Nat → Nat} {ca : Nat → ClassId} (o : z_Sg) (C0 : z_cx z_RWi b_Wi_multiply 9 none D (z_Kt ca) A p s m args meth c) (q : z_Sg) (x1 : Int64) (x3 : Int64) (x5 : Int32) (x6 : Int32) (t1 : Int64) (t2 : Int64) (h : k_Wi_multiply_44 x1 x3 x5 x6 t1 t2 q = some o) : ∀ (H : Heap) (locs : List Loc) (ls : Array Slot), z_wd D (z_K ad ca q) A s H locs → lv_has ls 9 [(0, .ref (ad 10)), (1, .long x1), (3, .long x3), (5, .int x5), (6, .int x6)] → W p l e (z_rm 1 35) s m args below meth c H locs 0 0 (z_qv below D (z_Kt ca) (z_K ad ca o) A s args) (F0 m 44 ls [.long t2, .long t1, .ref (ad 10)]) := by
  obtain ⟨hx, hb, hr, hlk, hml, hown, hts, hK, hA⟩ := id C0
  intro H locs ls hw hl
  refine lv_lload_n hx hb d_Wi_multiply_44 rfl (lv_at hl 2 rfl) ?_
  refine lv_lconst (v := (0 : Int64)) hx hb d_Wi_multiply_45 (by decide) ?_
  refine W.lcmp hx hb d_Wi_multiply_46 ?_
  refine lv_if_ge (tgt := 54) hx hb d_Wi_multiply_47 (by decide) (fun c22 => ?_) (fun c22 => ?_)
  · have h := ok_t h ((lg_cmp_ge _ _).mp c22)
    refine lv_lconst (v := (0 : Int64)) hx hb d_Wi_multiply_54 (by decide) ?_
    exact w_Wi_multiply_55 o C0 q x5 x6 t1 t2 (0 : Int64) h H locs ls hw (lv_sub hl [0, 3, 4] rfl)
  · have h := ok_f h (fun z => c22 ((lg_cmp_ge _ _).mpr z))
    refine lv_lload_n hx hb d_Wi_multiply_50 rfl (lv_at hl 1 rfl) ?_
    refine lv_goto (tgt := 55) hx hb d_Wi_multiply_51 (by decide) ?_
    exact w_Wi_multiply_55 o C0 q x5 x6 t1 t2 x1 h H locs ls hw (lv_sub hl [0, 3, 4] rfl)
set_option maxHeartbeats 4000000 in
set_option maxRecDepth 100000 in
theorem c_Wi_multiply {l : Launch} {D : va_G} {ad : Nat → Nat} {ca : Nat → ClassId} (x1 : Int64) (x3 : Int64) (x5 : Int32) (x6 : Int32) (q : z_Sg) (o : z_Sg) (h : f_Wi_multiply x1 x3 x5 x6 q = some o) : z_cv l y_Wi_multiply b_Wi_multiply 9 none 1 35 D (z_Kt ca) (z_K ad ca q) (z_K ad ca o) [.ref (ad 10), .long x1, .long x3, .int x5, .int x6] := by
  refine z_cv_of (own := z_RWi) (by decide) rfl ?_
  intro p e s m below meth c A C0 hw
  obtain ⟨hx, hb, hr, hlk, hml, hown, hts, hK, hA⟩ := id C0
  generalize hH : s.heap = H at hw ⊢
  generalize hlo : ([] : List Loc) = locs at hw ⊢
  refine z_entry (lv := [(0, .ref (ad 10)), (1, .long x1), (3, .long x3), (5, .int x5), (6, .int x6)]) (Nat.le_of_ble_eq_true rfl) rfl (fun ls hl => ?_)
  unfold f_Wi_multiply at h
  refine lv_iload hx hb d_Wi_multiply_0 (lv_at hl 3 rfl) ?_
  refine lv_bipush (v := (8 : Int32)) hx hb d_Wi_multiply_2 (by decide) ?_
  refine lv_icmp_ne (tgt := 63) hx hb d_Wi_multiply_4 (by decide) (fun c1 => ?_) (fun c1 => ?_)
  · have h := ok_f h c1
    refine lv_iload hx hb d_Wi_multiply_63 (lv_at hl 4 rfl) ?_
    refine lv_if_eq (tgt := 84) hx hb d_Wi_multiply_65 (by decide) (fun c2 => ?_) (fun c2 => ?_)
    · have h := ok_t h c2
      refine lv_lload_n hx hb d_Wi_multiply_84 rfl (lv_at hl 1 rfl) ?_
      refine lv_lload_n hx hb d_Wi_multiply_85 rfl (lv_at hl 2 rfl) ?_
      refine lv_lmul hx hb d_Wi_multiply_86 ?_
      exact w_Wi_multiply_87 o C0 q x5 x6 (x1 * x3) h H locs ls hw (lv_sub hl [0, 3, 4] rfl)
    · have h := ok_f h c2
      refine lv_lload_n hx hb d_Wi_multiply_68 rfl (lv_at hl 1 rfl) ?_
      refine lv_iload hx hb d_Wi_multiply_69 (lv_at hl 3 rfl) ?_
      obtain ⟨r15, er15, h⟩ := ok_b h
      refine z_sl (rest := []) C0 hw (c_Ar_signed x1 x5 q r15 er15) mw_Ar_signed ml_Wi_26 ⟨Nat.le_of_ble_eq_true rfl, Nat.le_of_ble_eq_true rfl⟩ ⟨Nat.le_refl 0, Nat.le_refl 0⟩ rfl hl.1 rfl (Nat.le_of_ble_eq_true rfl) d_Wi_multiply_71 (fun H locs hw => ?_)
      refine lv_lload_n hx hb d_Wi_multiply_74 rfl (lv_at hl 2 rfl) ?_
      refine lv_iload hx hb d_Wi_multiply_75 (lv_at hl 3 rfl) ?_
      obtain ⟨r16, er16, h⟩ := ok_b h
      refine z_sl (rest := [.long r15]) C0 hw (c_Ar_signed x3 x5 q r16 er16) mw_Ar_signed ml_Wi_26 ⟨Nat.le_of_ble_eq_true rfl, Nat.le_of_ble_eq_true rfl⟩ ⟨Nat.le_refl 0, Nat.le_refl 0⟩ rfl hl.1 rfl (Nat.le_of_ble_eq_true rfl) d_Wi_multiply_77 (fun H locs hw => ?_)
      refine lv_lmul hx hb d_Wi_multiply_80 ?_
      refine lv_goto (tgt := 87) hx hb d_Wi_multiply_81 (by decide) ?_
      exact w_Wi_multiply_87 o C0 q x5 x6 (r15 * r16) h H locs ls hw (lv_sub hl [0, 3, 4] rfl)
  · have h := ok_t h c1
    refine lv_aload_n hx hb d_Wi_multiply_7 rfl (lv_at hl 0 rfl) ?_
    refine lv_lload_n hx hb d_Wi_multiply_8 rfl (lv_at hl 1 rfl) ?_
    refine lv_lload_n hx hb d_Wi_multiply_9 rfl (lv_at hl 2 rfl) ?_
    refine lv_lmul hx hb d_Wi_multiply_10 ?_
    refine pfK_10_low C0 hw fl_Wi_15 d_Wi_multiply_11 (fun H locs hw => ?_)
    obtain ⟨q17, eq17, h⟩ := ok_n h
    rw [← eq17] at hw
    refine lv_aload_n hx hb d_Wi_multiply_14 rfl (lv_at hl 0 rfl) ?_
    refine lv_lload_n hx hb d_Wi_multiply_15 rfl (lv_at hl 1 rfl) ?_
    refine lv_lload_n hx hb d_Wi_multiply_16 rfl (lv_at hl 2 rfl) ?_
    obtain ⟨r18, er18, h⟩ := ok_b h
    refine z_sl (rest := [.ref (ad 10)]) C0 hw (c_Wi_upperHalf x1 x3 q17 r18 er18) mw_Wi_upperHalf ml_Wi_19 ⟨Nat.le_of_ble_eq_true rfl, Nat.le_of_ble_eq_true rfl⟩ ⟨Nat.le_refl 0, Nat.le_refl 0⟩ rfl hl.1 rfl (Nat.le_of_ble_eq_true rfl) d_Wi_multiply_17 (fun H locs hw => ?_)
    refine pfK_10_high C0 hw fl_Wi_23 d_Wi_multiply_20 (fun H locs hw => ?_)
    obtain ⟨q19, eq19, h⟩ := ok_n h
    rw [← eq19] at hw
    refine lv_iload hx hb d_Wi_multiply_23 (lv_at hl 4 rfl) ?_
    refine lv_if_eq (tgt := 119) hx hb d_Wi_multiply_25 (by decide) (fun c20 => ?_) (fun c20 => ?_)
    · have h := ok_t h c20
      exact w_Wi_multiply_119 o C0 q19 x5 x6 h H locs ls hw (lv_sub hl [0, 3, 4] rfl)
    · have h := ok_f h c20
      refine lv_aload_n hx hb d_Wi_multiply_28 rfl (lv_at hl 0 rfl) ?_
      refine lv_dup hx hb d_Wi_multiply_29 rfl ?_
      refine gfK_10_high C0 hw fl_Wi_23 d_Wi_multiply_30 ?_
      refine lv_lload_n hx hb d_Wi_multiply_33 rfl (lv_at hl 1 rfl) ?_
      refine lv_lconst (v := (0 : Int64)) hx hb d_Wi_multiply_34 (by decide) ?_
      refine W.lcmp hx hb d_Wi_multiply_35 ?_
      refine lv_if_ge (tgt := 43) hx hb d_Wi_multiply_36 (by decide) (fun c21 => ?_) (fun c21 => ?_)
      · have h := ok_t h ((lg_cmp_ge _ _).mp c21)
        refine lv_lconst (v := (0 : Int64)) hx hb d_Wi_multiply_43 (by decide) ?_
        exact w_Wi_multiply_44 o C0 q19 x1 x3 x5 x6 (z_gL q19 12) (0 : Int64) h H locs ls hw (lv_sub hl [0, 1, 2, 3, 4] rfl)
      · have h := ok_f h (fun z => c21 ((lg_cmp_ge _ _).mpr z))
        refine lv_lload_n hx hb d_Wi_multiply_39 rfl (lv_at hl 2 rfl) ?_
        refine lv_goto (tgt := 44) hx hb d_Wi_multiply_40 (by decide) ?_
        exact w_Wi_multiply_44 o C0 q19 x1 x3 x5 x6 (z_gL q19 12) x3 h H locs ls hw (lv_sub hl [0, 1, 2, 3, 4] rfl)
def k_Ar_flagsOf_51 (x6 : Int32) (t0 : Int32) (t1 : Int32) (q : z_Sg) : Option Int32 :=
  some ((t0 ||| t1) ||| ((((38505 : Int32) >>> (x6 &&& 31)) &&& (1 : Int32)) * (4 : Int32)))
def k_Ar_flagsOf_37 (x4 : Int64) (x6 : Int32) (t0 : Int32) (q : z_Sg) : Option Int32 :=
  if (0 : Int64) ≤ x4 then (k_Ar_flagsOf_51 x6 t0 (0 : Int32) q) else (k_Ar_flagsOf_51 x6 t0 (128 : Int32) q)
def f_Ar_flagsOf (x0 : Int64) (x2 : Int32) (q : z_Sg) : Option Int32 :=
  z_nm (((64 : Int32) - ((8 : Int32) * x2))) (fun n1 => z_nm ((z_lshl x0 n1)) (fun n2 => z_nm ((((x0 ^^^ (z_lushr x0 (4 : Int32))).toInt32) &&& (15 : Int32))) (fun n3 => if n2 = (0 : Int64) then (k_Ar_flagsOf_37 n2 n3 (64 : Int32) q) else (k_Ar_flagsOf_37 n2 n3 (0 : Int32) q))))
set_option maxHeartbeats 4000000 in
set_option maxRecDepth 100000 in
theorem w_Ar_flagsOf_51 {p : Program} {l : Launch} {e : Env} {s : State} {m : MethodId} {args : Array Value} {below : List Frame} {meth : Method} {c : Code} {D : va_G} {A : Nat → Prop} {ad : Nat → Nat} {ca : Nat → ClassId} (o : Int32) (C0 : z_cx z_RAr b_Ar_flagsOf 7 (some .int) D (z_Kt ca) A p s m args meth c) (q : z_Sg) (x6 : Int32) (t0 : Int32) (t1 : Int32) (h : k_Ar_flagsOf_51 x6 t0 t1 q = some o) : ∀ (H : Heap) (locs : List Loc) (ls : Array Slot), z_wd D (z_K ad ca q) A s H locs → lv_has ls 7 [(6, .int x6)] → W p l e (z_rm 0 0) s m args below meth c H locs 0 0 (z_qi below D (z_Kt ca) (z_K ad ca q) A s args o) (F0 m 51 ls [.int t1, .int t0]) := by
  obtain ⟨hx, hb, hr, hlk, hml, hown, hts, hK, hA⟩ := id C0
  intro H locs ls hw hl
  refine lv_ior hx hb d_Ar_flagsOf_51 ?_
  refine lv_ldc (own := z_RAr) hx hb hown (hts _ ki_Ar_27) d_Ar_flagsOf_52 ?_
  refine lv_iload hx hb d_Ar_flagsOf_54 (lv_at hl 0 rfl) ?_
  refine lv_ishr hx hb d_Ar_flagsOf_56 ?_
  refine lv_iconst (v := (1 : Int32)) hx hb d_Ar_flagsOf_57 (by decide) ?_
  refine lv_iand hx hb d_Ar_flagsOf_58 ?_
  refine lv_iconst (v := (4 : Int32)) hx hb d_Ar_flagsOf_59 (by decide) ?_
  refine lv_imul hx hb d_Ar_flagsOf_60 ?_
  refine lv_ior hx hb d_Ar_flagsOf_61 ?_
  have ho := Option.some.inj h
  subst ho
  exact z_rti C0 hw d_Ar_flagsOf_62
set_option maxHeartbeats 4000000 in
set_option maxRecDepth 100000 in
theorem w_Ar_flagsOf_37 {p : Program} {l : Launch} {e : Env} {s : State} {m : MethodId} {args : Array Value} {below : List Frame} {meth : Method} {c : Code} {D : va_G} {A : Nat → Prop} {ad : Nat → Nat} {ca : Nat → ClassId} (o : Int32) (C0 : z_cx z_RAr b_Ar_flagsOf 7 (some .int) D (z_Kt ca) A p s m args meth c) (q : z_Sg) (x4 : Int64) (x6 : Int32) (t0 : Int32) (h : k_Ar_flagsOf_37 x4 x6 t0 q = some o) : ∀ (H : Heap) (locs : List Loc) (ls : Array Slot), z_wd D (z_K ad ca q) A s H locs → lv_has ls 7 [(4, .long x4), (6, .int x6)] → W p l e (z_rm 0 0) s m args below meth c H locs 0 0 (z_qi below D (z_Kt ca) (z_K ad ca q) A s args o) (F0 m 37 ls [.int t0]) := by
  obtain ⟨hx, hb, hr, hlk, hml, hown, hts, hK, hA⟩ := id C0
  intro H locs ls hw hl
  refine lv_lload hx hb d_Ar_flagsOf_37 (lv_at hl 0 rfl) ?_
  refine lv_lconst (v := (0 : Int64)) hx hb d_Ar_flagsOf_39 (by decide) ?_
  refine W.lcmp hx hb d_Ar_flagsOf_40 ?_
  refine lv_if_ge (tgt := 50) hx hb d_Ar_flagsOf_41 (by decide) (fun c5 => ?_) (fun c5 => ?_)
  · have h := ok_t h ((lg_cmp_ge _ _).mp c5)
    refine lv_iconst (v := (0 : Int32)) hx hb d_Ar_flagsOf_50 (by decide) ?_
    exact w_Ar_flagsOf_51 o C0 q x6 t0 (0 : Int32) h H locs ls hw (lv_sub hl [1] rfl)
  · have h := ok_f h (fun z => c5 ((lg_cmp_ge _ _).mpr z))
    refine lv_sipush (v := (128 : Int32)) hx hb d_Ar_flagsOf_44 (by decide) ?_
    refine lv_goto (tgt := 51) hx hb d_Ar_flagsOf_47 (by decide) ?_
    exact w_Ar_flagsOf_51 o C0 q x6 t0 (128 : Int32) h H locs ls hw (lv_sub hl [1] rfl)
set_option maxHeartbeats 4000000 in
set_option maxRecDepth 100000 in
theorem c_Ar_flagsOf {l : Launch} {D : va_G} {ad : Nat → Nat} {ca : Nat → ClassId} (x0 : Int64) (x2 : Int32) (q : z_Sg) (o : Int32) (h : f_Ar_flagsOf x0 x2 q = some o) : z_ci l y_Ar_flagsOf b_Ar_flagsOf 7 (some .int) 0 0 D (z_Kt ca) (z_K ad ca q) (z_K ad ca q) [.long x0, .int x2] o := by
  refine z_ci_of (own := z_RAr) (by decide) rfl ?_
  intro p e s m below meth c A C0 hw
  obtain ⟨hx, hb, hr, hlk, hml, hown, hts, hK, hA⟩ := id C0
  generalize hH : s.heap = H at hw ⊢
  generalize hlo : ([] : List Loc) = locs at hw ⊢
  refine z_entry (lv := [(0, .long x0), (2, .int x2)]) (Nat.le_of_ble_eq_true rfl) rfl (fun ls hl => ?_)
  unfold f_Ar_flagsOf at h
  refine lv_bipush (v := (64 : Int32)) hx hb d_Ar_flagsOf_0 (by decide) ?_
  refine lv_bipush (v := (8 : Int32)) hx hb d_Ar_flagsOf_2 (by decide) ?_
  refine lv_iload_n hx hb d_Ar_flagsOf_4 rfl (lv_at hl 1 rfl) ?_
  refine lv_imul hx hb d_Ar_flagsOf_5 ?_
  refine lv_isub hx hb d_Ar_flagsOf_6 ?_
  obtain ⟨n1, en1, h⟩ := ok_n h
  refine z_ti en1 ?_
  refine lv_istore_n (lv' := [(3, .int n1), (0, .long x0), (2, .int x2)]) hx hb d_Ar_flagsOf_7 rfl hl (by decide) rfl (fun ls hl => ?_)
  refine lv_lload_n hx hb d_Ar_flagsOf_8 rfl (lv_at hl 1 rfl) ?_
  refine lv_iload_n hx hb d_Ar_flagsOf_9 rfl (lv_at hl 0 rfl) ?_
  refine lv_lshl (v := (z_lshl x0 n1)) hx hb d_Ar_flagsOf_10 rfl ?_
  obtain ⟨n2, en2, h⟩ := ok_n h
  refine z_tl en2 ?_
  refine lv_lstore (lv' := [(4, .long n2), (3, .int n1), (0, .long x0), (2, .int x2)]) hx hb d_Ar_flagsOf_11 hl (by decide) rfl (fun ls hl => ?_)
  refine lv_lload_n hx hb d_Ar_flagsOf_13 rfl (lv_at hl 2 rfl) ?_
  refine lv_lload_n hx hb d_Ar_flagsOf_14 rfl (lv_at hl 2 rfl) ?_
  refine lv_iconst (v := (4 : Int32)) hx hb d_Ar_flagsOf_15 (by decide) ?_
  refine lv_lushr (v := (z_lushr x0 (4 : Int32))) hx hb d_Ar_flagsOf_16 rfl ?_
  refine lv_lxor hx hb d_Ar_flagsOf_17 ?_
  refine lv_l2i hx hb d_Ar_flagsOf_18 rfl ?_
  refine lv_bipush (v := (15 : Int32)) hx hb d_Ar_flagsOf_19 (by decide) ?_
  refine lv_iand hx hb d_Ar_flagsOf_21 ?_
  obtain ⟨n3, en3, h⟩ := ok_n h
  refine z_ti en3 ?_
  refine lv_istore (lv' := [(6, .int n3), (4, .long n2), (3, .int n1), (0, .long x0), (2, .int x2)]) hx hb d_Ar_flagsOf_22 hl (by decide) rfl (fun ls hl => ?_)
  refine lv_lload hx hb d_Ar_flagsOf_24 (lv_at hl 1 rfl) ?_
  refine lv_lconst (v := (0 : Int64)) hx hb d_Ar_flagsOf_26 (by decide) ?_
  refine W.lcmp hx hb d_Ar_flagsOf_27 ?_
  refine lv_if_ne (tgt := 36) hx hb d_Ar_flagsOf_28 (by decide) (fun c4 => ?_) (fun c4 => ?_)
  · have h := ok_f h (fun z => c4 ((lg_cmp_eq _ _).mpr z))
    refine lv_iconst (v := (0 : Int32)) hx hb d_Ar_flagsOf_36 (by decide) ?_
    exact w_Ar_flagsOf_37 o C0 q n2 n3 (0 : Int32) h H locs ls hw (lv_sub hl [1, 0] rfl)
  · have h := ok_t h ((lg_cmp_eq _ _).mp c4)
    refine lv_bipush (v := (64 : Int32)) hx hb d_Ar_flagsOf_31 (by decide) ?_
    refine lv_goto (tgt := 37) hx hb d_Ar_flagsOf_33 (by decide) ?_
    exact w_Ar_flagsOf_37 o C0 q n2 n3 (64 : Int32) h H locs ls hw (lv_sub hl [1, 0] rfl)
def f_Ar_settleSum (x1 : Int64) (x3 : Int64) (x5 : Int64) (x7 : Int32) (q : z_Sg) : Option (Int64 × z_Sg) :=
  z_nm ((((8 : Int32) * x7) - (1 : Int32))) (fun n1 => (f_Ar_flagsOf x1 x7 q).bind (fun r2 => z_nm ((((r2 ||| ((((z_lushr x3 n1) &&& (1 : Int64)).toInt32) * (1 : Int32))) ||| ((((z_lushr x3 (3 : Int32)) &&& (1 : Int64)).toInt32) * (16 : Int32))) ||| ((((z_lushr x5 n1) &&& (1 : Int64)).toInt32) * (2048 : Int32)))) (fun n3 => (f_Ar_settle (2261 : Int32) n3 (0 : Int32) q).bind (fun r4 => (f_Ar_maskOf x7 r4).bind (fun r5 => some ((x1 &&& r5), r4))))))
set_option maxHeartbeats 4000000 in
set_option maxRecDepth 100000 in
theorem c_Ar_settleSum {l : Launch} {D : va_G} {ad : Nat → Nat} {ca : Nat → ClassId} (x1 : Int64) (x3 : Int64) (x5 : Int64) (x7 : Int32) (q : z_Sg) (o : (Int64 × z_Sg)) (h : f_Ar_settleSum x1 x3 x5 x7 q = some o) : z_cl l y_Ar_settleSum b_Ar_settleSum 10 (some .long) 1 26 D (z_Kt ca) (z_K ad ca q) (z_K ad ca o.2) [.ref (ad 9), .long x1, .long x3, .long x5, .int x7] o.1 := by
  refine z_cl_of (own := z_RAr) (by decide) rfl ?_
  intro p e s m below meth c A C0 hw
  obtain ⟨hx, hb, hr, hlk, hml, hown, hts, hK, hA⟩ := id C0
  generalize hH : s.heap = H at hw ⊢
  generalize hlo : ([] : List Loc) = locs at hw ⊢
  refine z_entry (lv := [(0, .ref (ad 9)), (1, .long x1), (3, .long x3), (5, .long x5), (7, .int x7)]) (Nat.le_of_ble_eq_true rfl) rfl (fun ls hl => ?_)
  unfold f_Ar_settleSum at h
  refine lv_bipush (v := (8 : Int32)) hx hb d_Ar_settleSum_0 (by decide) ?_
  refine lv_iload hx hb d_Ar_settleSum_2 (lv_at hl 4 rfl) ?_
  refine lv_imul hx hb d_Ar_settleSum_4 ?_
  refine lv_iconst (v := (1 : Int32)) hx hb d_Ar_settleSum_5 (by decide) ?_
  refine lv_isub hx hb d_Ar_settleSum_6 ?_
  obtain ⟨n1, en1, h⟩ := ok_n h
  refine z_ti en1 ?_
  refine lv_istore (lv' := [(8, .int n1), (0, .ref (ad 9)), (1, .long x1), (3, .long x3), (5, .long x5), (7, .int x7)]) hx hb d_Ar_settleSum_7 hl (by decide) rfl (fun ls hl => ?_)
  refine lv_lload_n hx hb d_Ar_settleSum_9 rfl (lv_at hl 2 rfl) ?_
  refine lv_iload hx hb d_Ar_settleSum_10 (lv_at hl 5 rfl) ?_
  obtain ⟨r2, er2, h⟩ := ok_b h
  refine z_si (rest := []) C0 hw (c_Ar_flagsOf x1 x7 q r2 er2) mw_Ar_flagsOf ml_Ar_28 ⟨Nat.le_of_ble_eq_true rfl, Nat.le_of_ble_eq_true rfl⟩ ⟨Nat.le_refl 0, Nat.le_refl 0⟩ rfl hl.1 rfl (Nat.le_of_ble_eq_true rfl) d_Ar_settleSum_12 (fun H locs hw => ?_)
  refine lv_lload_n hx hb d_Ar_settleSum_15 rfl (lv_at hl 3 rfl) ?_
  refine lv_iload hx hb d_Ar_settleSum_16 (lv_at hl 0 rfl) ?_
  refine lv_lushr (v := (z_lushr x3 n1)) hx hb d_Ar_settleSum_18 rfl ?_
  refine lv_lconst (v := (1 : Int64)) hx hb d_Ar_settleSum_19 (by decide) ?_
  refine lv_land hx hb d_Ar_settleSum_20 ?_
  refine lv_l2i hx hb d_Ar_settleSum_21 rfl ?_
  refine lv_iconst (v := (1 : Int32)) hx hb d_Ar_settleSum_22 (by decide) ?_
  refine lv_imul hx hb d_Ar_settleSum_23 ?_
  refine lv_ior hx hb d_Ar_settleSum_24 ?_
  refine lv_lload_n hx hb d_Ar_settleSum_25 rfl (lv_at hl 3 rfl) ?_
  refine lv_iconst (v := (3 : Int32)) hx hb d_Ar_settleSum_26 (by decide) ?_
  refine lv_lushr (v := (z_lushr x3 (3 : Int32))) hx hb d_Ar_settleSum_27 rfl ?_
  refine lv_lconst (v := (1 : Int64)) hx hb d_Ar_settleSum_28 (by decide) ?_
  refine lv_land hx hb d_Ar_settleSum_29 ?_
  refine lv_l2i hx hb d_Ar_settleSum_30 rfl ?_
  refine lv_bipush (v := (16 : Int32)) hx hb d_Ar_settleSum_31 (by decide) ?_
  refine lv_imul hx hb d_Ar_settleSum_33 ?_
  refine lv_ior hx hb d_Ar_settleSum_34 ?_
  refine lv_lload hx hb d_Ar_settleSum_35 (lv_at hl 4 rfl) ?_
  refine lv_iload hx hb d_Ar_settleSum_37 (lv_at hl 0 rfl) ?_
  refine lv_lushr (v := (z_lushr x5 n1)) hx hb d_Ar_settleSum_39 rfl ?_
  refine lv_lconst (v := (1 : Int64)) hx hb d_Ar_settleSum_40 (by decide) ?_
  refine lv_land hx hb d_Ar_settleSum_41 ?_
  refine lv_l2i hx hb d_Ar_settleSum_42 rfl ?_
  refine lv_sipush (v := (2048 : Int32)) hx hb d_Ar_settleSum_43 (by decide) ?_
  refine lv_imul hx hb d_Ar_settleSum_46 ?_
  refine lv_ior hx hb d_Ar_settleSum_47 ?_
  obtain ⟨n3, en3, h⟩ := ok_n h
  refine z_ti en3 ?_
  refine lv_istore (lv' := [(9, .int n3), (8, .int n1), (0, .ref (ad 9)), (1, .long x1), (3, .long x3), (5, .long x5), (7, .int x7)]) hx hb d_Ar_settleSum_48 hl (by decide) rfl (fun ls hl => ?_)
  refine lv_aload_n hx hb d_Ar_settleSum_50 rfl (lv_at hl 2 rfl) ?_
  refine lv_sipush (v := (2261 : Int32)) hx hb d_Ar_settleSum_51 (by decide) ?_
  refine lv_iload hx hb d_Ar_settleSum_54 (lv_at hl 0 rfl) ?_
  refine lv_iconst (v := (0 : Int32)) hx hb d_Ar_settleSum_56 (by decide) ?_
  obtain ⟨r4, er4, h⟩ := ok_b h
  refine z_vv (rest := []) C0 hw (c_Ar_settle (2261 : Int32) n3 (0 : Int32) q r4 er4) mw_Ar_settle ml_Ar_32 9 rfl ⟨Nat.le_of_ble_eq_true rfl, Nat.le_of_ble_eq_true rfl⟩ ⟨Nat.le_refl 0, Nat.le_refl 0⟩ rfl hl.1 rfl (Nat.le_of_ble_eq_true rfl) d_Ar_settleSum_57 (fun H locs hw => ?_)
  refine lv_lload_n hx hb d_Ar_settleSum_60 rfl (lv_at hl 3 rfl) ?_
  refine lv_iload hx hb d_Ar_settleSum_61 (lv_at hl 6 rfl) ?_
  obtain ⟨r5, er5, h⟩ := ok_b h
  refine z_sl (rest := [.long x1]) C0 hw (c_Ar_maskOf x7 r4 r5 er5) mw_Ar_maskOf ml_Ar_36 ⟨Nat.le_of_ble_eq_true rfl, Nat.le_of_ble_eq_true rfl⟩ ⟨Nat.le_refl 0, Nat.le_refl 0⟩ rfl hl.1 rfl (Nat.le_of_ble_eq_true rfl) d_Ar_settleSum_63 (fun H locs hw => ?_)
  refine lv_land hx hb d_Ar_settleSum_66 ?_
  have ho := Option.some.inj h
  subst ho
  exact z_rtl C0 hw d_Ar_settleSum_67
def f_Ar_difference (x1 : Int64) (x3 : Int64) (x5 : Int64) (x7 : Int32) (q : z_Sg) : Option (Int64 × z_Sg) :=
  z_nm (((x1 - x3) - x5)) (fun n1 => z_nm ((((x1 ^^^ (-1 : Int64)) &&& x3) ||| (((x1 ^^^ x3) ^^^ (-1 : Int64)) &&& n1))) (fun n2 => (f_Ar_settleSum n1 n2 ((x1 ^^^ x3) &&& (x1 ^^^ n1)) x7 q).bind (fun r3 => some (r3.1, r3.2))))
set_option maxHeartbeats 4000000 in
set_option maxRecDepth 100000 in
theorem c_Ar_difference {l : Launch} {D : va_G} {ad : Nat → Nat} {ca : Nat → ClassId} (x1 : Int64) (x3 : Int64) (x5 : Int64) (x7 : Int32) (q : z_Sg) (o : (Int64 × z_Sg)) (h : f_Ar_difference x1 x3 x5 x7 q = some o) : z_cl l y_Ar_difference b_Ar_difference 12 (some .long) 2 55 D (z_Kt ca) (z_K ad ca q) (z_K ad ca o.2) [.ref (ad 9), .long x1, .long x3, .long x5, .int x7] o.1 := by
  refine z_cl_of (own := z_RAr) (by decide) rfl ?_
  intro p e s m below meth c A C0 hw
  obtain ⟨hx, hb, hr, hlk, hml, hown, hts, hK, hA⟩ := id C0
  generalize hH : s.heap = H at hw ⊢
  generalize hlo : ([] : List Loc) = locs at hw ⊢
  refine z_entry (lv := [(0, .ref (ad 9)), (1, .long x1), (3, .long x3), (5, .long x5), (7, .int x7)]) (Nat.le_of_ble_eq_true rfl) rfl (fun ls hl => ?_)
  unfold f_Ar_difference at h
  refine lv_lload_n hx hb d_Ar_difference_0 rfl (lv_at hl 1 rfl) ?_
  refine lv_lload_n hx hb d_Ar_difference_1 rfl (lv_at hl 2 rfl) ?_
  refine lv_lsub hx hb d_Ar_difference_2 ?_
  refine lv_lload hx hb d_Ar_difference_3 (lv_at hl 3 rfl) ?_
  refine lv_lsub hx hb d_Ar_difference_5 ?_
  obtain ⟨n1, en1, h⟩ := ok_n h
  refine z_tl en1 ?_
  refine lv_lstore (lv' := [(8, .long n1), (0, .ref (ad 9)), (1, .long x1), (3, .long x3), (5, .long x5), (7, .int x7)]) hx hb d_Ar_difference_6 hl (by decide) rfl (fun ls hl => ?_)
  refine lv_lload_n hx hb d_Ar_difference_8 rfl (lv_at hl 2 rfl) ?_
  refine lv_ldc2 (own := z_RAr) hx hb hown (hts _ kl_Ar_15) d_Ar_difference_9 ?_
  refine lv_lxor hx hb d_Ar_difference_12 ?_
  refine lv_lload_n hx hb d_Ar_difference_13 rfl (lv_at hl 3 rfl) ?_
  refine lv_land hx hb d_Ar_difference_14 ?_
  refine lv_lload_n hx hb d_Ar_difference_15 rfl (lv_at hl 2 rfl) ?_
  refine lv_lload_n hx hb d_Ar_difference_16 rfl (lv_at hl 3 rfl) ?_
  refine lv_lxor hx hb d_Ar_difference_17 ?_
  refine lv_ldc2 (own := z_RAr) hx hb hown (hts _ kl_Ar_15) d_Ar_difference_18 ?_
  refine lv_lxor hx hb d_Ar_difference_21 ?_
  refine lv_lload hx hb d_Ar_difference_22 (lv_at hl 0 rfl) ?_
  refine lv_land hx hb d_Ar_difference_24 ?_
  refine lv_lor hx hb d_Ar_difference_25 ?_
  obtain ⟨n2, en2, h⟩ := ok_n h
  refine z_tl en2 ?_
  refine lv_lstore (lv' := [(10, .long n2), (8, .long n1), (0, .ref (ad 9)), (1, .long x1), (3, .long x3), (5, .long x5), (7, .int x7)]) hx hb d_Ar_difference_26 hl (by decide) rfl (fun ls hl => ?_)
  refine lv_aload_n hx hb d_Ar_difference_28 rfl (lv_at hl 2 rfl) ?_
  refine lv_lload hx hb d_Ar_difference_29 (lv_at hl 1 rfl) ?_
  refine lv_lload hx hb d_Ar_difference_31 (lv_at hl 0 rfl) ?_
  refine lv_lload_n hx hb d_Ar_difference_33 rfl (lv_at hl 3 rfl) ?_
  refine lv_lload_n hx hb d_Ar_difference_34 rfl (lv_at hl 4 rfl) ?_
  refine lv_lxor hx hb d_Ar_difference_35 ?_
  refine lv_lload_n hx hb d_Ar_difference_36 rfl (lv_at hl 3 rfl) ?_
  refine lv_lload hx hb d_Ar_difference_37 (lv_at hl 1 rfl) ?_
  refine lv_lxor hx hb d_Ar_difference_39 ?_
  refine lv_land hx hb d_Ar_difference_40 ?_
  refine lv_iload hx hb d_Ar_difference_41 (lv_at hl 6 rfl) ?_
  obtain ⟨r3, er3, h⟩ := ok_b h
  refine z_vl (rest := []) C0 hw (c_Ar_settleSum n1 n2 ((x1 ^^^ x3) &&& (x1 ^^^ n1)) x7 q r3 er3) mw_Ar_settleSum ml_Ar_40 9 rfl ⟨Nat.le_of_ble_eq_true rfl, Nat.le_of_ble_eq_true rfl⟩ ⟨Nat.le_refl 0, Nat.le_refl 0⟩ rfl hl.1 rfl (Nat.le_of_ble_eq_true rfl) d_Ar_difference_43 (fun H locs hw => ?_)
  have ho := Option.some.inj h
  subst ho
  exact z_rtl C0 hw d_Ar_difference_46
def k_Tw_compareAndChange_83 (q : z_Sg) : Option z_Sg :=
  some q
def f_Tw_compareAndChange (q : z_Sg) : Option z_Sg :=
  z_nm ((z_gI q 15)) (fun n1 => (f_Op_value q).bind (fun r2 => (f_Op_part (0 : Int32) n1 q).bind (fun r3 => (f_Ar_difference r3 r2 (0 : Int64) n1 q).bind (fun r4 => if r3 = r2 then ((f_Op_g n1 r4.2).bind (fun r8 => (f_Op_put r8 r4.2).bind (fun r9 => k_Tw_compareAndChange_83 r9))) else ((f_Op_putPart (0 : Int32) r2 n1 r4.2).bind (fun r6 => (f_Op_put r2 r6).bind (fun r7 => k_Tw_compareAndChange_83 r7)))))))
set_option maxHeartbeats 4000000 in
set_option maxRecDepth 100000 in
theorem w_Tw_compareAndChange_83 {p : Program} {l : Launch} {e : Env} {s : State} {m : MethodId} {args : Array Value} {below : List Frame} {meth : Method} {c : Code} {D : va_G} {A : Nat → Prop} {ad : Nat → Nat} {ca : Nat → ClassId} (o : z_Sg) (C0 : z_cx z_RTw b_Tw_compareAndChange 6 none D (z_Kt ca) A p s m args meth c) (q : z_Sg) (h : k_Tw_compareAndChange_83 q = some o) : ∀ (H : Heap) (locs : List Loc) (ls : Array Slot), z_wd D (z_K ad ca q) A s H locs → lv_has ls 6 [] → W p l e (z_rm 3 86) s m args below meth c H locs 0 0 (z_qv below D (z_Kt ca) (z_K ad ca o) A s args) (F0 m 83 ls []) := by
  obtain ⟨hx, hb, hr, hlk, hml, hown, hts, hK, hA⟩ := id C0
  intro H locs ls hw hl
  have ho := Option.some.inj h
  subst ho
  exact z_rtv C0 hw d_Tw_compareAndChange_83
set_option maxHeartbeats 4000000 in
set_option maxRecDepth 100000 in
theorem c_Tw_compareAndChange {l : Launch} {D : va_G} {ad : Nat → Nat} {ca : Nat → ClassId} (q : z_Sg) (o : z_Sg) (h : f_Tw_compareAndChange q = some o) : z_cv l y_Tw_compareAndChange b_Tw_compareAndChange 6 none 3 86 D (z_Kt ca) (z_K ad ca q) (z_K ad ca o) [.ref (ad 20)] := by
  refine z_cv_of (own := z_RTw) (by decide) rfl ?_
  intro p e s m below meth c A C0 hw
  obtain ⟨hx, hb, hr, hlk, hml, hown, hts, hK, hA⟩ := id C0
  generalize hH : s.heap = H at hw ⊢
  generalize hlo : ([] : List Loc) = locs at hw ⊢
  refine z_entry (lv := [(0, .ref (ad 20))]) (Nat.le_of_ble_eq_true rfl) rfl (fun ls hl => ?_)
  unfold f_Tw_compareAndChange at h
  refine lv_aload_n hx hb d_Tw_compareAndChange_0 rfl (lv_at hl 0 rfl) ?_
  refine gfK_20_operands C0 hw fl_Tw_15 d_Tw_compareAndChange_1 ?_
  refine gfK_6_bytes C0 hw fl_Tw_95 d_Tw_compareAndChange_4 ?_
  obtain ⟨n1, en1, h⟩ := ok_n h
  refine z_ti en1 ?_
  refine lv_istore_n (lv' := [(1, .int n1), (0, .ref (ad 20))]) hx hb d_Tw_compareAndChange_7 rfl hl (by decide) rfl (fun ls hl => ?_)
  refine lv_aload_n hx hb d_Tw_compareAndChange_8 rfl (lv_at hl 1 rfl) ?_
  refine gfK_20_operands C0 hw fl_Tw_15 d_Tw_compareAndChange_9 ?_
  obtain ⟨r2, er2, h⟩ := ok_b h
  refine z_vl (rest := []) C0 hw (c_Op_value q r2 er2) mw_Op_value ml_Tw_75 6 rfl ⟨Nat.le_of_ble_eq_true rfl, Nat.le_of_ble_eq_true rfl⟩ ⟨Nat.le_refl 0, Nat.le_refl 0⟩ rfl hl.1 rfl (Nat.le_of_ble_eq_true rfl) d_Tw_compareAndChange_12 (fun H locs hw => ?_)
  refine lv_lstore_n (lv' := [(2, .long r2), (1, .int n1), (0, .ref (ad 20))]) hx hb d_Tw_compareAndChange_15 rfl hl (by decide) rfl (fun ls hl => ?_)
  refine lv_aload_n hx hb d_Tw_compareAndChange_16 rfl (lv_at hl 2 rfl) ?_
  refine gfK_20_operands C0 hw fl_Tw_15 d_Tw_compareAndChange_17 ?_
  refine lv_iconst (v := (0 : Int32)) hx hb d_Tw_compareAndChange_20 (by decide) ?_
  refine lv_iload_n hx hb d_Tw_compareAndChange_21 rfl (lv_at hl 1 rfl) ?_
  obtain ⟨r3, er3, h⟩ := ok_b h
  refine z_vl (rest := []) C0 hw (c_Op_part (0 : Int32) n1 q r3 er3) mw_Op_part ml_Tw_112 6 rfl ⟨Nat.le_of_ble_eq_true rfl, Nat.le_of_ble_eq_true rfl⟩ ⟨Nat.le_refl 0, Nat.le_refl 0⟩ rfl hl.1 rfl (Nat.le_of_ble_eq_true rfl) d_Tw_compareAndChange_22 (fun H locs hw => ?_)
  refine lv_lstore (lv' := [(4, .long r3), (2, .long r2), (1, .int n1), (0, .ref (ad 20))]) hx hb d_Tw_compareAndChange_25 hl (by decide) rfl (fun ls hl => ?_)
  refine lv_aload_n hx hb d_Tw_compareAndChange_27 rfl (lv_at hl 3 rfl) ?_
  refine gfK_20_arithmetic C0 hw fl_Tw_19 d_Tw_compareAndChange_28 ?_
  refine lv_lload hx hb d_Tw_compareAndChange_31 (lv_at hl 0 rfl) ?_
  refine lv_lload_n hx hb d_Tw_compareAndChange_33 rfl (lv_at hl 1 rfl) ?_
  refine lv_lconst (v := (0 : Int64)) hx hb d_Tw_compareAndChange_34 (by decide) ?_
  refine lv_iload_n hx hb d_Tw_compareAndChange_35 rfl (lv_at hl 2 rfl) ?_
  obtain ⟨r4, er4, h⟩ := ok_b h
  refine z_vl (rest := []) C0 hw (c_Ar_difference r3 r2 (0 : Int64) n1 q r4 er4) mw_Ar_difference ml_Tw_142 9 rfl ⟨Nat.le_of_ble_eq_true rfl, Nat.le_of_ble_eq_true rfl⟩ ⟨Nat.le_refl 0, Nat.le_refl 0⟩ rfl hl.1 rfl (Nat.le_of_ble_eq_true rfl) d_Tw_compareAndChange_36 (fun H locs hw => ?_)
  refine lv_pop2_2 hx hb d_Tw_compareAndChange_39 rfl ?_
  refine lv_lload hx hb d_Tw_compareAndChange_40 (lv_at hl 0 rfl) ?_
  refine lv_lload_n hx hb d_Tw_compareAndChange_42 rfl (lv_at hl 1 rfl) ?_
  refine W.lcmp hx hb d_Tw_compareAndChange_43 ?_
  refine lv_if_ne (tgt := 65) hx hb d_Tw_compareAndChange_44 (by decide) (fun c5 => ?_) (fun c5 => ?_)
  · have h := ok_f h (fun z => c5 ((lg_cmp_eq _ _).mpr z))
    refine lv_aload_n hx hb d_Tw_compareAndChange_65 rfl (lv_at hl 3 rfl) ?_
    refine gfK_20_operands C0 hw fl_Tw_15 d_Tw_compareAndChange_66 ?_
    refine lv_iconst (v := (0 : Int32)) hx hb d_Tw_compareAndChange_69 (by decide) ?_
    refine lv_lload_n hx hb d_Tw_compareAndChange_70 rfl (lv_at hl 1 rfl) ?_
    refine lv_iload_n hx hb d_Tw_compareAndChange_71 rfl (lv_at hl 2 rfl) ?_
    obtain ⟨r6, er6, h⟩ := ok_b h
    refine z_vv (rest := []) C0 hw (c_Op_putPart (0 : Int32) r2 n1 r4.2 r6 er6) mw_Op_putPart ml_Tw_118 6 rfl ⟨Nat.le_of_ble_eq_true rfl, Nat.le_of_ble_eq_true rfl⟩ ⟨Nat.le_refl 0, Nat.le_refl 0⟩ rfl hl.1 rfl (Nat.le_of_ble_eq_true rfl) d_Tw_compareAndChange_72 (fun H locs hw => ?_)
    refine lv_aload_n hx hb d_Tw_compareAndChange_75 rfl (lv_at hl 3 rfl) ?_
    refine gfK_20_operands C0 hw fl_Tw_15 d_Tw_compareAndChange_76 ?_
    refine lv_lload_n hx hb d_Tw_compareAndChange_79 rfl (lv_at hl 1 rfl) ?_
    obtain ⟨r7, er7, h⟩ := ok_b h
    refine z_vv (rest := []) C0 hw (c_Op_put r2 r6 r7 er7) mw_Op_put ml_Tw_43 6 rfl ⟨Nat.le_of_ble_eq_true rfl, Nat.le_of_ble_eq_true rfl⟩ ⟨Nat.le_refl 0, Nat.le_refl 0⟩ rfl hl.1 rfl (Nat.le_of_ble_eq_true rfl) d_Tw_compareAndChange_80 (fun H locs hw => ?_)
    exact w_Tw_compareAndChange_83 o C0 r7 h H locs ls hw (lv_sub hl [] rfl)
  · have h := ok_t h ((lg_cmp_eq _ _).mp c5)
    refine lv_aload_n hx hb d_Tw_compareAndChange_47 rfl (lv_at hl 3 rfl) ?_
    refine gfK_20_operands C0 hw fl_Tw_15 d_Tw_compareAndChange_48 ?_
    refine lv_aload_n hx hb d_Tw_compareAndChange_51 rfl (lv_at hl 3 rfl) ?_
    refine gfK_20_operands C0 hw fl_Tw_15 d_Tw_compareAndChange_52 ?_
    refine lv_iload_n hx hb d_Tw_compareAndChange_55 rfl (lv_at hl 2 rfl) ?_
    obtain ⟨r8, er8, h⟩ := ok_b h
    refine z_vl (rest := [.ref (ad 6)]) C0 hw (c_Op_g n1 r4.2 r8 er8) mw_Op_g ml_Tw_60 6 rfl ⟨Nat.le_of_ble_eq_true rfl, Nat.le_of_ble_eq_true rfl⟩ ⟨Nat.le_refl 0, Nat.le_refl 0⟩ rfl hl.1 rfl (Nat.le_of_ble_eq_true rfl) d_Tw_compareAndChange_56 (fun H locs hw => ?_)
    obtain ⟨r9, er9, h⟩ := ok_b h
    refine z_vv (rest := []) C0 hw (c_Op_put r8 r4.2 r9 er9) mw_Op_put ml_Tw_43 6 rfl ⟨Nat.le_of_ble_eq_true rfl, Nat.le_of_ble_eq_true rfl⟩ ⟨Nat.le_refl 0, Nat.le_refl 0⟩ rfl hl.1 rfl (Nat.le_of_ble_eq_true rfl) d_Tw_compareAndChange_59 (fun H locs hw => ?_)
    refine lv_goto (tgt := 83) hx hb d_Tw_compareAndChange_62 (by decide) ?_
    exact w_Tw_compareAndChange_83 o C0 r9 h H locs ls hw (lv_sub hl [] rfl)
def f_Lo_bitCount (x0 : Int64) (q : z_Sg) : Option Int32 :=
  z_nm ((x0 - ((z_lushr x0 (1 : Int32)) &&& (6148914691236517205 : Int64)))) (fun n1 => z_nm (((n1 &&& (3689348814741910323 : Int64)) + ((z_lushr n1 (2 : Int32)) &&& (3689348814741910323 : Int64)))) (fun n2 => z_nm (((n2 + (z_lushr n2 (4 : Int32))) &&& (1085102592571150095 : Int64))) (fun n3 => z_nm ((n3 + (z_lushr n3 (8 : Int32)))) (fun n4 => z_nm ((n4 + (z_lushr n4 (16 : Int32)))) (fun n5 => z_nm ((n5 + (z_lushr n5 (32 : Int32)))) (fun n6 => some ((n6.toInt32) &&& (127 : Int32))))))))
set_option maxHeartbeats 4000000 in
set_option maxRecDepth 100000 in
theorem c_Lo_bitCount {l : Launch} {D : va_G} {ad : Nat → Nat} {ca : Nat → ClassId} (x0 : Int64) (q : z_Sg) (o : Int32) (h : f_Lo_bitCount x0 q = some o) : z_ci l y_Lo_bitCount b_Lo_bitCount 2 (some .int) 0 0 D (z_Kt ca) (z_K ad ca q) (z_K ad ca q) [.long x0] o := by
  refine z_ciJ_of (own := z_RLo) (by decide +kernel) rfl ?_
  intro p e s m below meth c A C0 hw
  obtain ⟨hx, hb, hr, hlk, hml, hown, hts, hK, hA⟩ := id C0
  generalize hH : s.heap = H at hw ⊢
  generalize hlo : ([] : List Loc) = locs at hw ⊢
  refine z_entry (lv := [(0, .long x0)]) (Nat.le_of_ble_eq_true rfl) rfl (fun ls hl => ?_)
  unfold f_Lo_bitCount at h
  refine lv_lload_n hx hb d_Lo_bitCount_0 rfl (lv_at hl 0 rfl) ?_
  refine lv_lload_n hx hb d_Lo_bitCount_1 rfl (lv_at hl 0 rfl) ?_
  refine lv_iconst (v := (1 : Int32)) hx hb d_Lo_bitCount_2 (by decide) ?_
  refine lv_lushr (v := (z_lushr x0 (1 : Int32))) hx hb d_Lo_bitCount_3 rfl ?_
  refine lv_ldc2 (own := z_RLo) hx hb hown (hts _ kl_Lo_314) d_Lo_bitCount_4 ?_
  refine lv_land hx hb d_Lo_bitCount_7 ?_
  refine lv_lsub hx hb d_Lo_bitCount_8 ?_
  obtain ⟨n1, en1, h⟩ := ok_n h
  refine z_tl en1 ?_
  refine lv_lstore_n (lv' := [(0, .long n1)]) hx hb d_Lo_bitCount_9 rfl hl (by decide) rfl (fun ls hl => ?_)
  refine lv_lload_n hx hb d_Lo_bitCount_10 rfl (lv_at hl 0 rfl) ?_
  refine lv_ldc2 (own := z_RLo) hx hb hown (hts _ kl_Lo_316) d_Lo_bitCount_11 ?_
  refine lv_land hx hb d_Lo_bitCount_14 ?_
  refine lv_lload_n hx hb d_Lo_bitCount_15 rfl (lv_at hl 0 rfl) ?_
  refine lv_iconst (v := (2 : Int32)) hx hb d_Lo_bitCount_16 (by decide) ?_
  refine lv_lushr (v := (z_lushr n1 (2 : Int32))) hx hb d_Lo_bitCount_17 rfl ?_
  refine lv_ldc2 (own := z_RLo) hx hb hown (hts _ kl_Lo_316) d_Lo_bitCount_18 ?_
  refine lv_land hx hb d_Lo_bitCount_21 ?_
  refine lv_ladd hx hb d_Lo_bitCount_22 ?_
  obtain ⟨n2, en2, h⟩ := ok_n h
  refine z_tl en2 ?_
  refine lv_lstore_n (lv' := [(0, .long n2)]) hx hb d_Lo_bitCount_23 rfl hl (by decide) rfl (fun ls hl => ?_)
  refine lv_lload_n hx hb d_Lo_bitCount_24 rfl (lv_at hl 0 rfl) ?_
  refine lv_lload_n hx hb d_Lo_bitCount_25 rfl (lv_at hl 0 rfl) ?_
  refine lv_iconst (v := (4 : Int32)) hx hb d_Lo_bitCount_26 (by decide) ?_
  refine lv_lushr (v := (z_lushr n2 (4 : Int32))) hx hb d_Lo_bitCount_27 rfl ?_
  refine lv_ladd hx hb d_Lo_bitCount_28 ?_
  refine lv_ldc2 (own := z_RLo) hx hb hown (hts _ kl_Lo_318) d_Lo_bitCount_29 ?_
  refine lv_land hx hb d_Lo_bitCount_32 ?_
  obtain ⟨n3, en3, h⟩ := ok_n h
  refine z_tl en3 ?_
  refine lv_lstore_n (lv' := [(0, .long n3)]) hx hb d_Lo_bitCount_33 rfl hl (by decide) rfl (fun ls hl => ?_)
  refine lv_lload_n hx hb d_Lo_bitCount_34 rfl (lv_at hl 0 rfl) ?_
  refine lv_lload_n hx hb d_Lo_bitCount_35 rfl (lv_at hl 0 rfl) ?_
  refine lv_bipush (v := (8 : Int32)) hx hb d_Lo_bitCount_36 (by decide) ?_
  refine lv_lushr (v := (z_lushr n3 (8 : Int32))) hx hb d_Lo_bitCount_38 rfl ?_
  refine lv_ladd hx hb d_Lo_bitCount_39 ?_
  obtain ⟨n4, en4, h⟩ := ok_n h
  refine z_tl en4 ?_
  refine lv_lstore_n (lv' := [(0, .long n4)]) hx hb d_Lo_bitCount_40 rfl hl (by decide) rfl (fun ls hl => ?_)
  refine lv_lload_n hx hb d_Lo_bitCount_41 rfl (lv_at hl 0 rfl) ?_
  refine lv_lload_n hx hb d_Lo_bitCount_42 rfl (lv_at hl 0 rfl) ?_
  refine lv_bipush (v := (16 : Int32)) hx hb d_Lo_bitCount_43 (by decide) ?_
  refine lv_lushr (v := (z_lushr n4 (16 : Int32))) hx hb d_Lo_bitCount_45 rfl ?_
  refine lv_ladd hx hb d_Lo_bitCount_46 ?_
  obtain ⟨n5, en5, h⟩ := ok_n h
  refine z_tl en5 ?_
  refine lv_lstore_n (lv' := [(0, .long n5)]) hx hb d_Lo_bitCount_47 rfl hl (by decide) rfl (fun ls hl => ?_)
  refine lv_lload_n hx hb d_Lo_bitCount_48 rfl (lv_at hl 0 rfl) ?_
  refine lv_lload_n hx hb d_Lo_bitCount_49 rfl (lv_at hl 0 rfl) ?_
  refine lv_bipush (v := (32 : Int32)) hx hb d_Lo_bitCount_50 (by decide) ?_
  refine lv_lushr (v := (z_lushr n5 (32 : Int32))) hx hb d_Lo_bitCount_52 rfl ?_
  refine lv_ladd hx hb d_Lo_bitCount_53 ?_
  obtain ⟨n6, en6, h⟩ := ok_n h
  refine z_tl en6 ?_
  refine lv_lstore_n (lv' := [(0, .long n6)]) hx hb d_Lo_bitCount_54 rfl hl (by decide) rfl (fun ls hl => ?_)
  refine lv_lload_n hx hb d_Lo_bitCount_55 rfl (lv_at hl 0 rfl) ?_
  refine lv_l2i hx hb d_Lo_bitCount_56 rfl ?_
  refine lv_bipush (v := (127 : Int32)) hx hb d_Lo_bitCount_57 (by decide) ?_
  refine lv_iand hx hb d_Lo_bitCount_59 ?_
  have ho := Option.some.inj h
  subst ho
  exact z_rti C0 hw d_Lo_bitCount_60
def kb_Tw_highestBit_5 (ih5 : Int64 × Int32 → Option Int32) (x2 : Int64) (x4 : Int32) (q : z_Sg) : Option Int32 :=
  if (64 : Int32) ≤ x4 then ((f_Lo_bitCount x2 q).bind (fun r2 => some (r2 - (1 : Int32)))) else (z_nm ((x2 ||| (z_lushr x2 x4))) (fun n3 => z_nm ((x4 * (2 : Int32))) (fun n4 => ih5 (n3, n4))))
def k_Tw_highestBit_5 (x2 : Int64) (x4 : Int32) (q : z_Sg) : Option Int32 := z_lo (fun ih5 a => kb_Tw_highestBit_5 ih5 a.1 a.2 q) 2000 (x2, x4)
def f_Tw_highestBit (x0 : Int64) (q : z_Sg) : Option Int32 :=
  k_Tw_highestBit_5 x0 (1 : Int32) q
set_option maxHeartbeats 4000000 in
set_option maxRecDepth 100000 in
theorem wb_Tw_highestBit_5 {p : Program} {l : Launch} {e : Env} {s : State} {m : MethodId} {args : Array Value} {below : List Frame} {meth : Method} {c : Code} {D : va_G} {A : Nat → Prop} {ad : Nat → Nat} {ca : Nat → ClassId} (o : Int32) (C0 : z_cx z_RTw b_Tw_highestBit 5 (some .int) D (z_Kt ca) A p s m args meth c) (q : z_Sg) (ih5 : Int64 × Int32 → Option Int32) (hi5 : ∀ a : Int64 × Int32, ih5 a = some o → ∀ (H : Heap) (locs : List Loc) (ls : Array Slot), z_wd D (z_K ad ca q) A s H locs → lv_has ls 5 [(2, .long a.1), (4, .int a.2)] → W p l e (z_rm 1 21) s m args below meth c H locs 0 0 (z_qi below D (z_Kt ca) (z_K ad ca q) A s args o) (F0 m 5 ls [])) (x2 : Int64) (x4 : Int32) (h : kb_Tw_highestBit_5 ih5 x2 x4 q = some o) : ∀ (H : Heap) (locs : List Loc) (ls : Array Slot), z_wd D (z_K ad ca q) A s H locs → lv_has ls 5 [(2, .long x2), (4, .int x4)] → W p l e (z_rm 1 21) s m args below meth c H locs 0 0 (z_qi below D (z_Kt ca) (z_K ad ca q) A s args o) (F0 m 5 ls []) := by
  obtain ⟨hx, hb, hr, hlk, hml, hown, hts, hK, hA⟩ := id C0
  intro H locs ls hw hl
  refine lv_iload hx hb d_Tw_highestBit_5 (lv_at hl 1 rfl) ?_
  refine lv_bipush (v := (64 : Int32)) hx hb d_Tw_highestBit_7 (by decide) ?_
  refine lv_icmp_ge (tgt := 28) hx hb d_Tw_highestBit_9 (by decide) (fun c1 => ?_) (fun c1 => ?_)
  · have h := ok_t h c1
    refine lv_lload_n hx hb d_Tw_highestBit_28 rfl (lv_at hl 0 rfl) ?_
    obtain ⟨r2, er2, h⟩ := ok_b h
    refine z_si (rest := []) C0 hw (c_Lo_bitCount x2 q r2 er2) mw_Lo_bitCount ml_Tw_137 ⟨Nat.le_of_ble_eq_true rfl, Nat.le_of_ble_eq_true rfl⟩ ⟨Nat.le_refl 0, Nat.le_refl 0⟩ rfl hl.1 rfl (Nat.le_of_ble_eq_true rfl) d_Tw_highestBit_29 (fun H locs hw => ?_)
    refine lv_iconst (v := (1 : Int32)) hx hb d_Tw_highestBit_32 (by decide) ?_
    refine lv_isub hx hb d_Tw_highestBit_33 ?_
    have ho := Option.some.inj h
    subst ho
    exact z_rti C0 hw d_Tw_highestBit_34
  · have h := ok_f h c1
    refine lv_lload_n hx hb d_Tw_highestBit_12 rfl (lv_at hl 0 rfl) ?_
    refine lv_lload_n hx hb d_Tw_highestBit_13 rfl (lv_at hl 0 rfl) ?_
    refine lv_iload hx hb d_Tw_highestBit_14 (lv_at hl 1 rfl) ?_
    refine lv_lushr (v := (z_lushr x2 x4)) hx hb d_Tw_highestBit_16 rfl ?_
    refine lv_lor hx hb d_Tw_highestBit_17 ?_
    obtain ⟨n3, en3, h⟩ := ok_n h
    refine z_tl en3 ?_
    refine lv_lstore_n (lv' := [(2, .long n3), (4, .int x4)]) hx hb d_Tw_highestBit_18 rfl hl (by decide) rfl (fun ls hl => ?_)
    refine lv_iload hx hb d_Tw_highestBit_19 (lv_at hl 1 rfl) ?_
    refine lv_iconst (v := (2 : Int32)) hx hb d_Tw_highestBit_21 (by decide) ?_
    refine lv_imul hx hb d_Tw_highestBit_22 ?_
    obtain ⟨n4, en4, h⟩ := ok_n h
    refine z_ti en4 ?_
    refine lv_istore (lv' := [(4, .int n4), (2, .long n3)]) hx hb d_Tw_highestBit_23 hl (by decide) rfl (fun ls hl => ?_)
    refine lv_goto (tgt := 5) hx hb d_Tw_highestBit_25 (by decide) ?_
    exact hi5 (n3, n4) h H locs ls hw (lv_sub hl [1, 0] rfl)
theorem w_Tw_highestBit_5 {p : Program} {l : Launch} {e : Env} {s : State} {m : MethodId} {args : Array Value} {below : List Frame} {meth : Method} {c : Code} {D : va_G} {A : Nat → Prop} {ad : Nat → Nat} {ca : Nat → ClassId} (o : Int32) (C0 : z_cx z_RTw b_Tw_highestBit 5 (some .int) D (z_Kt ca) A p s m args meth c) (q : z_Sg) (x2 : Int64) (x4 : Int32) (h : k_Tw_highestBit_5 x2 x4 q = some o) : ∀ (H : Heap) (locs : List Loc) (ls : Array Slot), z_wd D (z_K ad ca q) A s H locs → lv_has ls 5 [(2, .long x2), (4, .int x4)] → W p l e (z_rm 1 21) s m args below meth c H locs 0 0 (z_qi below D (z_Kt ca) (z_K ad ca q) A s args o) (F0 m 5 ls []) := by
  have key : ∀ (n : Nat) (a : Int64 × Int32), z_lo (fun ih5 a => kb_Tw_highestBit_5 ih5 a.1 a.2 q) n a = some o → ∀ (H : Heap) (locs : List Loc) (ls : Array Slot), z_wd D (z_K ad ca q) A s H locs → lv_has ls 5 [(2, .long a.1), (4, .int a.2)] → W p l e (z_rm 1 21) s m args below meth c H locs 0 0 (z_qi below D (z_Kt ca) (z_K ad ca q) A s args o) (F0 m 5 ls []) := by
    intro n
    induction n with
    | zero => intro a h; cases h
    | succ n ih => exact fun a h => wb_Tw_highestBit_5 o C0 q (z_lo (fun ih5 a => kb_Tw_highestBit_5 ih5 a.1 a.2 q) n) ih a.1 a.2 h
  exact key 2000 (x2, x4) h
set_option maxHeartbeats 4000000 in
set_option maxRecDepth 100000 in
theorem c_Tw_highestBit {l : Launch} {D : va_G} {ad : Nat → Nat} {ca : Nat → ClassId} (x0 : Int64) (q : z_Sg) (o : Int32) (h : f_Tw_highestBit x0 q = some o) : z_ci l y_Tw_highestBit b_Tw_highestBit 5 (some .int) 1 21 D (z_Kt ca) (z_K ad ca q) (z_K ad ca q) [.long x0] o := by
  refine z_ci_of (own := z_RTw) (by decide) rfl ?_
  intro p e s m below meth c A C0 hw
  obtain ⟨hx, hb, hr, hlk, hml, hown, hts, hK, hA⟩ := id C0
  generalize hH : s.heap = H at hw ⊢
  generalize hlo : ([] : List Loc) = locs at hw ⊢
  refine z_entry (lv := [(0, .long x0)]) (Nat.le_of_ble_eq_true rfl) rfl (fun ls hl => ?_)
  unfold f_Tw_highestBit at h
  refine lv_lload_n hx hb d_Tw_highestBit_0 rfl (lv_at hl 0 rfl) ?_
  refine lv_lstore_n (lv' := [(2, .long x0), (0, .long x0)]) hx hb d_Tw_highestBit_1 rfl hl (by decide) rfl (fun ls hl => ?_)
  refine lv_iconst (v := (1 : Int32)) hx hb d_Tw_highestBit_2 (by decide) ?_
  refine lv_istore (lv' := [(4, .int (1 : Int32)), (2, .long x0), (0, .long x0)]) hx hb d_Tw_highestBit_3 hl (by decide) rfl (fun ls hl => ?_)
  exact w_Tw_highestBit_5 o C0 q x0 (1 : Int32) h H locs ls hw (lv_sub hl [1, 0] rfl)
def f_Tw_lowestBit (x0 : Int64) (q : z_Sg) : Option Int32 :=
  (f_Lo_bitCount ((x0 &&& (-x0)) - (1 : Int64)) q).bind (fun r1 => some r1)
set_option maxHeartbeats 4000000 in
set_option maxRecDepth 100000 in
theorem c_Tw_lowestBit {l : Launch} {D : va_G} {ad : Nat → Nat} {ca : Nat → ClassId} (x0 : Int64) (q : z_Sg) (o : Int32) (h : f_Tw_lowestBit x0 q = some o) : z_ci l y_Tw_lowestBit b_Tw_lowestBit 2 (some .int) 1 21 D (z_Kt ca) (z_K ad ca q) (z_K ad ca q) [.long x0] o := by
  refine z_ci_of (own := z_RTw) (by decide) rfl ?_
  intro p e s m below meth c A C0 hw
  obtain ⟨hx, hb, hr, hlk, hml, hown, hts, hK, hA⟩ := id C0
  generalize hH : s.heap = H at hw ⊢
  generalize hlo : ([] : List Loc) = locs at hw ⊢
  refine z_entry (lv := [(0, .long x0)]) (Nat.le_of_ble_eq_true rfl) rfl (fun ls hl => ?_)
  unfold f_Tw_lowestBit at h
  refine lv_lload_n hx hb d_Tw_lowestBit_0 rfl (lv_at hl 0 rfl) ?_
  refine lv_lload_n hx hb d_Tw_lowestBit_1 rfl (lv_at hl 0 rfl) ?_
  refine lv_lneg hx hb d_Tw_lowestBit_2 ?_
  refine lv_land hx hb d_Tw_lowestBit_3 ?_
  refine lv_lconst (v := (1 : Int64)) hx hb d_Tw_lowestBit_4 (by decide) ?_
  refine lv_lsub hx hb d_Tw_lowestBit_5 ?_
  obtain ⟨r1, er1, h⟩ := ok_b h
  refine z_si (rest := []) C0 hw (c_Lo_bitCount ((x0 &&& (-x0)) - (1 : Int64)) q r1 er1) mw_Lo_bitCount ml_Tw_137 ⟨Nat.le_of_ble_eq_true rfl, Nat.le_of_ble_eq_true rfl⟩ ⟨Nat.le_refl 0, Nat.le_refl 0⟩ rfl hl.1 rfl (Nat.le_of_ble_eq_true rfl) d_Tw_lowestBit_6 (fun H locs hw => ?_)
  have ho := Option.some.inj h
  subst ho
  exact z_rti C0 hw d_Tw_lowestBit_9
def k_Tw_findBit_56 (q : z_Sg) : Option z_Sg :=
  some q
def k_Tw_findBit_51 (x4 : Int32) (t1 : Int64) (q : z_Sg) : Option z_Sg :=
  (f_Op_putG t1 x4 q).bind (fun r6 => k_Tw_findBit_56 r6)
def k_Tw_findBit_18 (x1 : Int32) (x2 : Int64) (x4 : Int32) (t1 : Int32) (t2 : Int32) (q : z_Sg) : Option z_Sg :=
  (f_Ar_settle t1 t2 (2197 : Int32) q).bind (fun r2 => if x2 = (0 : Int64) then (k_Tw_findBit_56 r2) else (if x1 = 0 then ((f_Tw_highestBit x2 r2).bind (fun r5 => k_Tw_findBit_51 x4 (r5.toInt64) r2)) else ((f_Tw_lowestBit x2 r2).bind (fun r7 => k_Tw_findBit_51 x4 (r7.toInt64) r2))))
def f_Tw_findBit (x1 : Int32) (x2 : Int64) (x4 : Int32) (q : z_Sg) : Option z_Sg :=
  if x2 = (0 : Int64) then (k_Tw_findBit_18 x1 x2 x4 (64 : Int32) (64 : Int32) q) else (k_Tw_findBit_18 x1 x2 x4 (64 : Int32) (0 : Int32) q)
set_option maxHeartbeats 4000000 in
set_option maxRecDepth 100000 in
theorem w_Tw_findBit_56 {p : Program} {l : Launch} {e : Env} {s : State} {m : MethodId} {args : Array Value} {below : List Frame} {meth : Method} {c : Code} {D : va_G} {A : Nat → Prop} {ad : Nat → Nat} {ca : Nat → ClassId} (o : z_Sg) (C0 : z_cx z_RTw b_Tw_findBit 5 none D (z_Kt ca) A p s m args meth c) (q : z_Sg) (h : k_Tw_findBit_56 q = some o) : ∀ (H : Heap) (locs : List Loc) (ls : Array Slot), z_wd D (z_K ad ca q) A s H locs → lv_has ls 5 [] → W p l e (z_rm 3 73) s m args below meth c H locs 0 0 (z_qv below D (z_Kt ca) (z_K ad ca o) A s args) (F0 m 56 ls []) := by
  obtain ⟨hx, hb, hr, hlk, hml, hown, hts, hK, hA⟩ := id C0
  intro H locs ls hw hl
  have ho := Option.some.inj h
  subst ho
  exact z_rtv C0 hw d_Tw_findBit_56
set_option maxHeartbeats 4000000 in
set_option maxRecDepth 100000 in
theorem w_Tw_findBit_51 {p : Program} {l : Launch} {e : Env} {s : State} {m : MethodId} {args : Array Value} {below : List Frame} {meth : Method} {c : Code} {D : va_G} {A : Nat → Prop} {ad : Nat → Nat} {ca : Nat → ClassId} (o : z_Sg) (C0 : z_cx z_RTw b_Tw_findBit 5 none D (z_Kt ca) A p s m args meth c) (q : z_Sg) (x4 : Int32) (t1 : Int64) (h : k_Tw_findBit_51 x4 t1 q = some o) : ∀ (H : Heap) (locs : List Loc) (ls : Array Slot), z_wd D (z_K ad ca q) A s H locs → lv_has ls 5 [(4, .int x4)] → W p l e (z_rm 3 73) s m args below meth c H locs 0 0 (z_qv below D (z_Kt ca) (z_K ad ca o) A s args) (F0 m 51 ls [.long t1, .ref (ad 6)]) := by
  obtain ⟨hx, hb, hr, hlk, hml, hown, hts, hK, hA⟩ := id C0
  intro H locs ls hw hl
  refine lv_iload hx hb d_Tw_findBit_51 (lv_at hl 0 rfl) ?_
  obtain ⟨r6, er6, h⟩ := ok_b h
  refine z_vv (rest := []) C0 hw (c_Op_putG t1 x4 q r6 er6) mw_Op_putG ml_Tw_88 6 rfl ⟨Nat.le_of_ble_eq_true rfl, Nat.le_of_ble_eq_true rfl⟩ ⟨Nat.le_refl 0, Nat.le_refl 0⟩ rfl hl.1 rfl (Nat.le_of_ble_eq_true rfl) d_Tw_findBit_53 (fun H locs hw => ?_)
  exact w_Tw_findBit_56 o C0 r6 h H locs ls hw (lv_sub hl [] rfl)
set_option maxHeartbeats 4000000 in
set_option maxRecDepth 100000 in
theorem w_Tw_findBit_18 {p : Program} {l : Launch} {e : Env} {s : State} {m : MethodId} {args : Array Value} {below : List Frame} {meth : Method} {c : Code} {D : va_G} {A : Nat → Prop} {ad : Nat → Nat} {ca : Nat → ClassId} (o : z_Sg) (C0 : z_cx z_RTw b_Tw_findBit 5 none D (z_Kt ca) A p s m args meth c) (q : z_Sg) (x1 : Int32) (x2 : Int64) (x4 : Int32) (t1 : Int32) (t2 : Int32) (h : k_Tw_findBit_18 x1 x2 x4 t1 t2 q = some o) : ∀ (H : Heap) (locs : List Loc) (ls : Array Slot), z_wd D (z_K ad ca q) A s H locs → lv_has ls 5 [(0, .ref (ad 20)), (1, .int x1), (2, .long x2), (4, .int x4)] → W p l e (z_rm 3 73) s m args below meth c H locs 0 0 (z_qv below D (z_Kt ca) (z_K ad ca o) A s args) (F0 m 18 ls [.int t2, .int t1, .ref (ad 9)]) := by
  obtain ⟨hx, hb, hr, hlk, hml, hown, hts, hK, hA⟩ := id C0
  intro H locs ls hw hl
  refine lv_sipush (v := (2197 : Int32)) hx hb d_Tw_findBit_18 (by decide) ?_
  obtain ⟨r2, er2, h⟩ := ok_b h
  refine z_vv (rest := []) C0 hw (c_Ar_settle t1 t2 (2197 : Int32) q r2 er2) mw_Ar_settle ml_Tw_124 9 rfl ⟨Nat.le_of_ble_eq_true rfl, Nat.le_of_ble_eq_true rfl⟩ ⟨Nat.le_refl 0, Nat.le_refl 0⟩ rfl hl.1 rfl (Nat.le_of_ble_eq_true rfl) d_Tw_findBit_21 (fun H locs hw => ?_)
  refine lv_lload_n hx hb d_Tw_findBit_24 rfl (lv_at hl 2 rfl) ?_
  refine lv_lconst (v := (0 : Int64)) hx hb d_Tw_findBit_25 (by decide) ?_
  refine W.lcmp hx hb d_Tw_findBit_26 ?_
  refine lv_if_eq (tgt := 56) hx hb d_Tw_findBit_27 (by decide) (fun c3 => ?_) (fun c3 => ?_)
  · have h := ok_t h ((lg_cmp_eq _ _).mp c3)
    exact w_Tw_findBit_56 o C0 r2 h H locs ls hw (lv_sub hl [] rfl)
  · have h := ok_f h (fun z => c3 ((lg_cmp_eq _ _).mpr z))
    refine lv_aload_n hx hb d_Tw_findBit_30 rfl (lv_at hl 0 rfl) ?_
    refine gfK_20_operands C0 hw fl_Tw_15 d_Tw_findBit_31 ?_
    refine lv_iload_n hx hb d_Tw_findBit_34 rfl (lv_at hl 1 rfl) ?_
    refine lv_if_eq (tgt := 46) hx hb d_Tw_findBit_35 (by decide) (fun c4 => ?_) (fun c4 => ?_)
    · have h := ok_t h c4
      refine lv_lload_n hx hb d_Tw_findBit_46 rfl (lv_at hl 2 rfl) ?_
      obtain ⟨r5, er5, h⟩ := ok_b h
      refine z_si (rest := [.ref (ad 6)]) C0 hw (c_Tw_highestBit x2 r2 r5 er5) mw_Tw_highestBit ml_Tw_134 ⟨Nat.le_of_ble_eq_true rfl, Nat.le_of_ble_eq_true rfl⟩ ⟨Nat.le_refl 0, Nat.le_refl 0⟩ rfl hl.1 rfl (Nat.le_of_ble_eq_true rfl) d_Tw_findBit_47 (fun H locs hw => ?_)
      refine lv_i2l hx hb d_Tw_findBit_50 rfl ?_
      exact w_Tw_findBit_51 o C0 r2 x4 (r5.toInt64) h H locs ls hw (lv_sub hl [3] rfl)
    · have h := ok_f h c4
      refine lv_lload_n hx hb d_Tw_findBit_38 rfl (lv_at hl 2 rfl) ?_
      obtain ⟨r7, er7, h⟩ := ok_b h
      refine z_si (rest := [.ref (ad 6)]) C0 hw (c_Tw_lowestBit x2 r2 r7 er7) mw_Tw_lowestBit ml_Tw_130 ⟨Nat.le_of_ble_eq_true rfl, Nat.le_of_ble_eq_true rfl⟩ ⟨Nat.le_refl 0, Nat.le_refl 0⟩ rfl hl.1 rfl (Nat.le_of_ble_eq_true rfl) d_Tw_findBit_39 (fun H locs hw => ?_)
      refine lv_i2l hx hb d_Tw_findBit_42 rfl ?_
      refine lv_goto (tgt := 51) hx hb d_Tw_findBit_43 (by decide) ?_
      exact w_Tw_findBit_51 o C0 r2 x4 (r7.toInt64) h H locs ls hw (lv_sub hl [3] rfl)
set_option maxHeartbeats 4000000 in
set_option maxRecDepth 100000 in
theorem c_Tw_findBit {l : Launch} {D : va_G} {ad : Nat → Nat} {ca : Nat → ClassId} (x1 : Int32) (x2 : Int64) (x4 : Int32) (q : z_Sg) (o : z_Sg) (h : f_Tw_findBit x1 x2 x4 q = some o) : z_cv l y_Tw_findBit b_Tw_findBit 5 none 3 73 D (z_Kt ca) (z_K ad ca q) (z_K ad ca o) [.ref (ad 20), .int x1, .long x2, .int x4] := by
  refine z_cv_of (own := z_RTw) (by decide) rfl ?_
  intro p e s m below meth c A C0 hw
  obtain ⟨hx, hb, hr, hlk, hml, hown, hts, hK, hA⟩ := id C0
  generalize hH : s.heap = H at hw ⊢
  generalize hlo : ([] : List Loc) = locs at hw ⊢
  refine z_entry (lv := [(0, .ref (ad 20)), (1, .int x1), (2, .long x2), (4, .int x4)]) (Nat.le_of_ble_eq_true rfl) rfl (fun ls hl => ?_)
  unfold f_Tw_findBit at h
  refine lv_aload_n hx hb d_Tw_findBit_0 rfl (lv_at hl 0 rfl) ?_
  refine gfK_20_arithmetic C0 hw fl_Tw_19 d_Tw_findBit_1 ?_
  refine lv_bipush (v := (64 : Int32)) hx hb d_Tw_findBit_4 (by decide) ?_
  refine lv_lload_n hx hb d_Tw_findBit_6 rfl (lv_at hl 2 rfl) ?_
  refine lv_lconst (v := (0 : Int64)) hx hb d_Tw_findBit_7 (by decide) ?_
  refine W.lcmp hx hb d_Tw_findBit_8 ?_
  refine lv_if_ne (tgt := 17) hx hb d_Tw_findBit_9 (by decide) (fun c1 => ?_) (fun c1 => ?_)
  · have h := ok_f h (fun z => c1 ((lg_cmp_eq _ _).mpr z))
    refine lv_iconst (v := (0 : Int32)) hx hb d_Tw_findBit_17 (by decide) ?_
    exact w_Tw_findBit_18 o C0 q x1 x2 x4 (64 : Int32) (0 : Int32) h H locs ls hw (lv_sub hl [0, 1, 2, 3] rfl)
  · have h := ok_t h ((lg_cmp_eq _ _).mp c1)
    refine lv_bipush (v := (64 : Int32)) hx hb d_Tw_findBit_12 (by decide) ?_
    refine lv_goto (tgt := 18) hx hb d_Tw_findBit_14 (by decide) ?_
    exact w_Tw_findBit_18 o C0 q x1 x2 x4 (64 : Int32) (64 : Int32) h H locs ls hw (lv_sub hl [0, 1, 2, 3] rfl)
