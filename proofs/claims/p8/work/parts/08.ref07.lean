def k_Mo_system_116 (q : z_Sg) : Option z_Sg :=
  some q
def k_Mo_system_81 (q : z_Sg) : Option z_Sg :=
  (f_Mo_refuse (13 : Int32) q).bind (fun r3 => k_Mo_system_116 r3)
def f_Mo_system (x1 : Int32) (q : z_Sg) : Option z_Sg :=
  if x1 = 0 then (if (z_gI q 2) = 0 then (if z_bad (1 : Int32) 16 then none else ((f_Mo_isWrong (z_gM q 0 (1 : Int32).toNatClampNeg) q).bind (fun r5 => if r5 = 0 then (if z_bad (1 : Int32) 16 then none else (z_nm (z_sL q 7 (z_gM q 0 (1 : Int32).toNatClampNeg)) (fun q8 => if z_bad (11 : Int32) 16 then none else ((f_Mo_setFlags (z_gM q8 0 (11 : Int32).toNatClampNeg) q8).bind (fun r10 => z_nm (z_sI r10 2 (1 : Int32)) (fun q11 => k_Mo_system_116 q11)))))) else (k_Mo_system_81 q)))) else (k_Mo_system_81 q)) else (if z_bad (1 : Int32) 16 then none else (z_nm (z_sM q 0 (1 : Int32).toNatClampNeg (z_gL q 7)) (fun q13 => (f_Mo_flags q13).bind (fun r14 => if z_bad (11 : Int32) 16 then none else (z_nm (z_sM q13 0 (11 : Int32).toNatClampNeg (r14 ||| (2 : Int64))) (fun q16 => z_nm (z_sL q16 7 (z_gL q16 2)) (fun q17 => (f_Mo_flags q17).bind (fun r18 => (f_Mo_setFlags (r18 &&& ((z_gL q17 3) ^^^ (-1 : Int64))) q17).bind (fun r19 => z_nm (z_sI r19 2 (0 : Int32)) (fun q20 => k_Mo_system_116 q20))))))))))
set_option maxHeartbeats 4000000 in
set_option maxRecDepth 100000 in
theorem w_Mo_system_116 {p : Program} {l : Launch} {e : Env} {s : State} {m : MethodId} {args : Array Value} {below : List Frame} {meth : Method} {c : Code} {D : va_G} {A : Nat → Prop} {ad : Nat → Nat} {ca : Nat → ClassId} (o : z_Sg) (C0 : z_cx z_RMo b_Mo_system 2 none D (z_Mt ca) A p s m args meth c) (q : z_Sg) (h : k_Mo_system_116 q = some o) : ∀ (H : Heap) (locs : List Loc) (ls : Array Slot), z_wd D (z_M ad ca q) A s H locs → lv_has ls 2 [] → W p l e (z_rm 1 24) s m args below meth c H locs 0 0 (z_qv below D (z_Mt ca) (z_M ad ca o) A s args) (F0 m 116 ls []) := by
  obtain ⟨hx, hb, hr, hlk, hml, hown, hts, hK, hA⟩ := id C0
  intro H locs ls hw hl
  have ho := Option.some.inj h
  subst ho
  exact z_rtv C0 hw d_Mo_system_116
set_option maxHeartbeats 4000000 in
set_option maxRecDepth 100000 in
theorem w_Mo_system_81 {p : Program} {l : Launch} {e : Env} {s : State} {m : MethodId} {args : Array Value} {below : List Frame} {meth : Method} {c : Code} {D : va_G} {A : Nat → Prop} {ad : Nat → Nat} {ca : Nat → ClassId} (o : z_Sg) (C0 : z_cx z_RMo b_Mo_system 2 none D (z_Mt ca) A p s m args meth c) (q : z_Sg) (h : k_Mo_system_81 q = some o) : ∀ (H : Heap) (locs : List Loc) (ls : Array Slot), z_wd D (z_M ad ca q) A s H locs → lv_has ls 2 [(0, .ref (ad 0))] → W p l e (z_rm 1 24) s m args below meth c H locs 0 0 (z_qv below D (z_Mt ca) (z_M ad ca o) A s args) (F0 m 81 ls []) := by
  obtain ⟨hx, hb, hr, hlk, hml, hown, hts, hK, hA⟩ := id C0
  intro H locs ls hw hl
  refine lv_aload_n hx hb d_Mo_system_81 rfl (lv_at hl 0 rfl) ?_
  refine lv_bipush (v := (13 : Int32)) hx hb d_Mo_system_82 (by decide) ?_
  obtain ⟨r3, er3, h⟩ := ok_b h
  refine z_vv (rest := []) C0 hw (c_Mo_refuse (13 : Int32) q r3 er3) mw_Mo_refuse ml_Mo_81 0 rfl ⟨Nat.le_of_ble_eq_true rfl, Nat.le_of_ble_eq_true rfl⟩ ⟨Nat.le_refl 0, Nat.le_refl 0⟩ rfl hl.1 rfl (Nat.le_of_ble_eq_true rfl) d_Mo_system_84 (fun H locs hw => ?_)
  refine lv_goto (tgt := 116) hx hb d_Mo_system_87 (by decide) ?_
  exact w_Mo_system_116 o C0 r3 h H locs ls hw (lv_sub hl [] rfl)
set_option maxHeartbeats 4000000 in
set_option maxRecDepth 100000 in
theorem c_Mo_system {l : Launch} {D : va_G} {ad : Nat → Nat} {ca : Nat → ClassId} (x1 : Int32) (q : z_Sg) (o : z_Sg) (h : f_Mo_system x1 q = some o) : z_cv l y_Mo_system b_Mo_system 2 none 1 24 D (z_Mt ca) (z_M ad ca q) (z_M ad ca o) [.ref (ad 0), .int x1] := by
  refine z_cv_of (own := z_RMo) (by decide) rfl ?_
  intro p e s m below meth c A C0 hw
  obtain ⟨hx, hb, hr, hlk, hml, hown, hts, hK, hA⟩ := id C0
  generalize hH : s.heap = H at hw ⊢
  generalize hlo : ([] : List Loc) = locs at hw ⊢
  refine z_entry (lv := [(0, .ref (ad 0)), (1, .int x1)]) (Nat.le_of_ble_eq_true rfl) rfl (fun ls hl => ?_)
  unfold f_Mo_system at h
  refine lv_iload_n hx hb d_Mo_system_0 rfl (lv_at hl 1 rfl) ?_
  refine lv_if_eq (tgt := 62) hx hb d_Mo_system_1 (by decide) (fun c1 => ?_) (fun c1 => ?_)
  · have h := ok_t h c1
    refine lv_aload_n hx hb d_Mo_system_62 rfl (lv_at hl 0 rfl) ?_
    refine gfM_0_user C0 hw fl_Mo_48 d_Mo_system_63 ?_
    refine lv_if_ne (tgt := 81) hx hb d_Mo_system_66 (by decide) (fun c2 => ?_) (fun c2 => ?_)
    · have h := ok_f h c2
      exact w_Mo_system_81 o C0 q h H locs ls hw (lv_sub hl [0] rfl)
    · have h := ok_t h c2
      refine lv_aload_n hx hb d_Mo_system_69 rfl (lv_at hl 0 rfl) ?_
      refine gfM_0_r C0 hw fl_Mo_14 d_Mo_system_70 ?_
      refine lv_iconst (v := (1 : Int32)) hx hb d_Mo_system_73 (by decide) ?_
      obtain ⟨b4, h⟩ := ok_g h
      refine alM_2 C0 hw b4 d_Mo_system_74 ?_
      obtain ⟨r5, er5, h⟩ := ok_b h
      refine z_si (rest := []) C0 hw (c_Mo_isWrong (z_gM q 0 (1 : Int32).toNatClampNeg) q r5 er5) mw_Mo_isWrong ml_Mo_77 ⟨Nat.le_of_ble_eq_true rfl, Nat.le_of_ble_eq_true rfl⟩ ⟨Nat.le_refl 0, Nat.le_refl 0⟩ rfl hl.1 rfl (Nat.le_of_ble_eq_true rfl) d_Mo_system_75 (fun H locs hw => ?_)
      refine lv_if_eq (tgt := 90) hx hb d_Mo_system_78 (by decide) (fun c6 => ?_) (fun c6 => ?_)
      · have h := ok_t h c6
        refine lv_aload_n hx hb d_Mo_system_90 rfl (lv_at hl 0 rfl) ?_
        refine lv_aload_n hx hb d_Mo_system_91 rfl (lv_at hl 0 rfl) ?_
        refine gfM_0_r C0 hw fl_Mo_14 d_Mo_system_92 ?_
        refine lv_iconst (v := (1 : Int32)) hx hb d_Mo_system_95 (by decide) ?_
        obtain ⟨b7, h⟩ := ok_g h
        refine alM_2 C0 hw b7 d_Mo_system_96 ?_
        refine pfM_0_goes C0 hw fl_Mo_173 d_Mo_system_97 (fun H locs hw => ?_)
        obtain ⟨q8, eq8, h⟩ := ok_n h
        rw [← eq8] at hw
        refine lv_aload_n hx hb d_Mo_system_100 rfl (lv_at hl 0 rfl) ?_
        refine lv_aload_n hx hb d_Mo_system_101 rfl (lv_at hl 0 rfl) ?_
        refine gfM_0_r C0 hw fl_Mo_14 d_Mo_system_102 ?_
        refine lv_bipush (v := (11 : Int32)) hx hb d_Mo_system_105 (by decide) ?_
        obtain ⟨b9, h⟩ := ok_g h
        refine alM_2 C0 hw b9 d_Mo_system_107 ?_
        obtain ⟨r10, er10, h⟩ := ok_b h
        refine z_vv (rest := []) C0 hw (c_Mo_setFlags (z_gM q8 0 (11 : Int32).toNatClampNeg) q8 r10 er10) mw_Mo_setFlags ml_Mo_316 0 rfl ⟨Nat.le_of_ble_eq_true rfl, Nat.le_of_ble_eq_true rfl⟩ ⟨Nat.le_refl 0, Nat.le_refl 0⟩ rfl hl.1 rfl (Nat.le_of_ble_eq_true rfl) d_Mo_system_108 (fun H locs hw => ?_)
        refine lv_aload_n hx hb d_Mo_system_111 rfl (lv_at hl 0 rfl) ?_
        refine lv_iconst (v := (1 : Int32)) hx hb d_Mo_system_112 (by decide) ?_
        refine pfM_0_user C0 hw (Or.inr rfl) fl_Mo_48 d_Mo_system_113 (fun H locs hw => ?_)
        obtain ⟨q11, eq11, h⟩ := ok_n h
        rw [← eq11] at hw
        exact w_Mo_system_116 o C0 q11 h H locs ls hw (lv_sub hl [] rfl)
      · have h := ok_f h c6
        exact w_Mo_system_81 o C0 q h H locs ls hw (lv_sub hl [0] rfl)
  · have h := ok_f h c1
    refine lv_aload_n hx hb d_Mo_system_4 rfl (lv_at hl 0 rfl) ?_
    refine gfM_0_r C0 hw fl_Mo_14 d_Mo_system_5 ?_
    refine lv_iconst (v := (1 : Int32)) hx hb d_Mo_system_8 (by decide) ?_
    refine lv_aload_n hx hb d_Mo_system_9 rfl (lv_at hl 0 rfl) ?_
    refine gfM_0_goes C0 hw fl_Mo_173 d_Mo_system_10 ?_
    obtain ⟨b12, h⟩ := ok_g h
    refine asM_2 C0 hw b12 d_Mo_system_13 (fun H locs hw => ?_)
    obtain ⟨q13, eq13, h⟩ := ok_n h
    rw [← eq13] at hw
    refine lv_aload_n hx hb d_Mo_system_14 rfl (lv_at hl 0 rfl) ?_
    refine gfM_0_r C0 hw fl_Mo_14 d_Mo_system_15 ?_
    refine lv_bipush (v := (11 : Int32)) hx hb d_Mo_system_18 (by decide) ?_
    refine lv_aload_n hx hb d_Mo_system_20 rfl (lv_at hl 0 rfl) ?_
    obtain ⟨r14, er14, h⟩ := ok_b h
    refine z_vl (rest := [.int (11 : Int32), .ref (ad 2)]) C0 hw (c_Mo_flags q13 r14 er14) mw_Mo_flags ml_Mo_304 0 rfl ⟨Nat.le_of_ble_eq_true rfl, Nat.le_of_ble_eq_true rfl⟩ ⟨Nat.le_refl 0, Nat.le_refl 0⟩ rfl hl.1 rfl (Nat.le_of_ble_eq_true rfl) d_Mo_system_21 (fun H locs hw => ?_)
    refine lv_ldc2 (own := z_RMo) hx hb hown (hts _ kl_Mo_73) d_Mo_system_24 ?_
    refine lv_lor hx hb d_Mo_system_27 ?_
    obtain ⟨b15, h⟩ := ok_g h
    refine asM_2 C0 hw b15 d_Mo_system_28 (fun H locs hw => ?_)
    obtain ⟨q16, eq16, h⟩ := ok_n h
    rw [← eq16] at hw
    refine lv_aload_n hx hb d_Mo_system_29 rfl (lv_at hl 0 rfl) ?_
    refine lv_aload_n hx hb d_Mo_system_30 rfl (lv_at hl 0 rfl) ?_
    refine gfM_0_entryPlace C0 hw fl_Mo_445 d_Mo_system_31 ?_
    refine pfM_0_goes C0 hw fl_Mo_173 d_Mo_system_34 (fun H locs hw => ?_)
    obtain ⟨q17, eq17, h⟩ := ok_n h
    rw [← eq17] at hw
    refine lv_aload_n hx hb d_Mo_system_37 rfl (lv_at hl 0 rfl) ?_
    refine lv_aload_n hx hb d_Mo_system_38 rfl (lv_at hl 0 rfl) ?_
    obtain ⟨r18, er18, h⟩ := ok_b h
    refine z_vl (rest := [.ref (ad 0)]) C0 hw (c_Mo_flags q17 r18 er18) mw_Mo_flags ml_Mo_304 0 rfl ⟨Nat.le_of_ble_eq_true rfl, Nat.le_of_ble_eq_true rfl⟩ ⟨Nat.le_refl 0, Nat.le_refl 0⟩ rfl hl.1 rfl (Nat.le_of_ble_eq_true rfl) d_Mo_system_39 (fun H locs hw => ?_)
    refine lv_aload_n hx hb d_Mo_system_42 rfl (lv_at hl 0 rfl) ?_
    refine gfM_0_mask C0 hw fl_Mo_448 d_Mo_system_43 ?_
    refine lv_ldc2 (own := z_RMo) hx hb hown (hts _ kl_Mo_71) d_Mo_system_46 ?_
    refine lv_lxor hx hb d_Mo_system_49 ?_
    refine lv_land hx hb d_Mo_system_50 ?_
    obtain ⟨r19, er19, h⟩ := ok_b h
    refine z_vv (rest := []) C0 hw (c_Mo_setFlags (r18 &&& ((z_gL q17 3) ^^^ (-1 : Int64))) q17 r19 er19) mw_Mo_setFlags ml_Mo_316 0 rfl ⟨Nat.le_of_ble_eq_true rfl, Nat.le_of_ble_eq_true rfl⟩ ⟨Nat.le_refl 0, Nat.le_refl 0⟩ rfl hl.1 rfl (Nat.le_of_ble_eq_true rfl) d_Mo_system_51 (fun H locs hw => ?_)
    refine lv_aload_n hx hb d_Mo_system_54 rfl (lv_at hl 0 rfl) ?_
    refine lv_iconst (v := (0 : Int32)) hx hb d_Mo_system_55 (by decide) ?_
    refine pfM_0_user C0 hw (Or.inl rfl) fl_Mo_48 d_Mo_system_56 (fun H locs hw => ?_)
    obtain ⟨q20, eq20, h⟩ := ok_n h
    rw [← eq20] at hw
    refine lv_goto (tgt := 116) hx hb d_Mo_system_59 (by decide) ?_
    exact w_Mo_system_116 o C0 q20 h H locs ls hw (lv_sub hl [] rfl)
def k_Ma_floorModM_25 (x4 : Int64) (q : z_Sg) : Option Int64 :=
  some x4
def f_Ma_floorModM (x0 : Int64) (x2 : Int64) (q : z_Sg) : Option Int64 :=
  if x2 = 0 then none else (z_nm ((x0 - x0 / x2 * x2)) (fun n2 => if (0 : Int64) ≤ (x0 ^^^ x2) then (k_Ma_floorModM_25 n2 q) else (if n2 = (0 : Int64) then (k_Ma_floorModM_25 n2 q) else (some (n2 + x2)))))
set_option maxHeartbeats 4000000 in
set_option maxRecDepth 100000 in
theorem w_Ma_floorModM_25 {p : Program} {l : Launch} {e : Env} {s : State} {m : MethodId} {args : Array Value} {below : List Frame} {meth : Method} {c : Code} {D : va_G} {A : Nat → Prop} {ad : Nat → Nat} {ca : Nat → ClassId} (o : Int64) (C0 : z_cx z_RMa b_Ma_floorMod 6 (some .long) D (z_Mt ca) A p s m args meth c) (q : z_Sg) (x4 : Int64) (h : k_Ma_floorModM_25 x4 q = some o) : ∀ (H : Heap) (locs : List Loc) (ls : Array Slot), z_wd D (z_M ad ca q) A s H locs → lv_has ls 6 [(4, .long x4)] → W p l e (z_rm 0 0) s m args below meth c H locs 0 0 (z_ql below D (z_Mt ca) (z_M ad ca q) A s args o) (F0 m 25 ls []) := by
  obtain ⟨hx, hb, hr, hlk, hml, hown, hts, hK, hA⟩ := id C0
  intro H locs ls hw hl
  refine lv_lload hx hb d_Ma_floorMod_25 (lv_at hl 0 rfl) ?_
  have ho := Option.some.inj h
  subst ho
  exact z_rtl C0 hw d_Ma_floorMod_27
set_option maxHeartbeats 4000000 in
set_option maxRecDepth 100000 in
theorem c_Ma_floorModM {l : Launch} {D : va_G} {ad : Nat → Nat} {ca : Nat → ClassId} (x0 : Int64) (x2 : Int64) (q : z_Sg) (o : Int64) (h : f_Ma_floorModM x0 x2 q = some o) : z_cl l y_Ma_floorMod b_Ma_floorMod 6 (some .long) 0 0 D (z_Mt ca) (z_M ad ca q) (z_M ad ca q) [.long x0, .long x2] o := by
  refine z_clJ_of (own := z_RMa) (by decide +kernel) rfl ?_
  intro p e s m below meth c A C0 hw
  obtain ⟨hx, hb, hr, hlk, hml, hown, hts, hK, hA⟩ := id C0
  generalize hH : s.heap = H at hw ⊢
  generalize hlo : ([] : List Loc) = locs at hw ⊢
  refine z_entry (lv := [(0, .long x0), (2, .long x2)]) (Nat.le_of_ble_eq_true rfl) rfl (fun ls hl => ?_)
  unfold f_Ma_floorModM at h
  refine lv_lload_n hx hb d_Ma_floorMod_0 rfl (lv_at hl 0 rfl) ?_
  refine lv_lload_n hx hb d_Ma_floorMod_1 rfl (lv_at hl 1 rfl) ?_
  obtain ⟨b1, h⟩ := ok_g h
  refine lv_lrem hx hb d_Ma_floorMod_2 b1 ?_
  obtain ⟨n2, en2, h⟩ := ok_n h
  refine z_tl en2 ?_
  refine lv_lstore (lv' := [(4, .long n2), (0, .long x0), (2, .long x2)]) hx hb d_Ma_floorMod_3 hl (by decide) rfl (fun ls hl => ?_)
  refine lv_lload_n hx hb d_Ma_floorMod_5 rfl (lv_at hl 1 rfl) ?_
  refine lv_lload_n hx hb d_Ma_floorMod_6 rfl (lv_at hl 2 rfl) ?_
  refine lv_lxor hx hb d_Ma_floorMod_7 ?_
  refine lv_lconst (v := (0 : Int64)) hx hb d_Ma_floorMod_8 (by decide) ?_
  refine W.lcmp hx hb d_Ma_floorMod_9 ?_
  refine lv_if_ge (tgt := 25) hx hb d_Ma_floorMod_10 (by decide) (fun c3 => ?_) (fun c3 => ?_)
  · have h := ok_t h ((lg_cmp_ge _ _).mp c3)
    exact w_Ma_floorModM_25 o C0 q n2 h H locs ls hw (lv_sub hl [0] rfl)
  · have h := ok_f h (fun z => c3 ((lg_cmp_ge _ _).mpr z))
    refine lv_lload hx hb d_Ma_floorMod_13 (lv_at hl 0 rfl) ?_
    refine lv_lconst (v := (0 : Int64)) hx hb d_Ma_floorMod_15 (by decide) ?_
    refine W.lcmp hx hb d_Ma_floorMod_16 ?_
    refine lv_if_eq (tgt := 25) hx hb d_Ma_floorMod_17 (by decide) (fun c4 => ?_) (fun c4 => ?_)
    · have h := ok_t h ((lg_cmp_eq _ _).mp c4)
      exact w_Ma_floorModM_25 o C0 q n2 h H locs ls hw (lv_sub hl [0] rfl)
    · have h := ok_f h (fun z => c4 ((lg_cmp_eq _ _).mpr z))
      refine lv_lload hx hb d_Ma_floorMod_20 (lv_at hl 0 rfl) ?_
      refine lv_lload_n hx hb d_Ma_floorMod_22 rfl (lv_at hl 2 rfl) ?_
      refine lv_ladd hx hb d_Ma_floorMod_23 ?_
      have ho := Option.some.inj h
      subst ho
      exact z_rtl C0 hw d_Ma_floorMod_24
def k_Ma_floorDivM_27 (x4 : Int64) (q : z_Sg) : Option Int64 :=
  some x4
def f_Ma_floorDivM (x0 : Int64) (x2 : Int64) (q : z_Sg) : Option Int64 :=
  if x2 = 0 then none else (z_nm ((x0 / x2)) (fun n2 => if (0 : Int64) ≤ (x0 ^^^ x2) then (k_Ma_floorDivM_27 n2 q) else (if (n2 * x2) = x0 then (k_Ma_floorDivM_27 n2 q) else (some (n2 - (1 : Int64))))))
set_option maxHeartbeats 4000000 in
set_option maxRecDepth 100000 in
theorem w_Ma_floorDivM_27 {p : Program} {l : Launch} {e : Env} {s : State} {m : MethodId} {args : Array Value} {below : List Frame} {meth : Method} {c : Code} {D : va_G} {A : Nat → Prop} {ad : Nat → Nat} {ca : Nat → ClassId} (o : Int64) (C0 : z_cx z_RMa b_Ma_floorDiv 6 (some .long) D (z_Mt ca) A p s m args meth c) (q : z_Sg) (x4 : Int64) (h : k_Ma_floorDivM_27 x4 q = some o) : ∀ (H : Heap) (locs : List Loc) (ls : Array Slot), z_wd D (z_M ad ca q) A s H locs → lv_has ls 6 [(4, .long x4)] → W p l e (z_rm 0 0) s m args below meth c H locs 0 0 (z_ql below D (z_Mt ca) (z_M ad ca q) A s args o) (F0 m 27 ls []) := by
  obtain ⟨hx, hb, hr, hlk, hml, hown, hts, hK, hA⟩ := id C0
  intro H locs ls hw hl
  refine lv_lload hx hb d_Ma_floorDiv_27 (lv_at hl 0 rfl) ?_
  have ho := Option.some.inj h
  subst ho
  exact z_rtl C0 hw d_Ma_floorDiv_29
set_option maxHeartbeats 4000000 in
set_option maxRecDepth 100000 in
theorem c_Ma_floorDivM {l : Launch} {D : va_G} {ad : Nat → Nat} {ca : Nat → ClassId} (x0 : Int64) (x2 : Int64) (q : z_Sg) (o : Int64) (h : f_Ma_floorDivM x0 x2 q = some o) : z_cl l y_Ma_floorDiv b_Ma_floorDiv 6 (some .long) 0 0 D (z_Mt ca) (z_M ad ca q) (z_M ad ca q) [.long x0, .long x2] o := by
  refine z_clJ_of (own := z_RMa) (by decide +kernel) rfl ?_
  intro p e s m below meth c A C0 hw
  obtain ⟨hx, hb, hr, hlk, hml, hown, hts, hK, hA⟩ := id C0
  generalize hH : s.heap = H at hw ⊢
  generalize hlo : ([] : List Loc) = locs at hw ⊢
  refine z_entry (lv := [(0, .long x0), (2, .long x2)]) (Nat.le_of_ble_eq_true rfl) rfl (fun ls hl => ?_)
  unfold f_Ma_floorDivM at h
  refine lv_lload_n hx hb d_Ma_floorDiv_0 rfl (lv_at hl 0 rfl) ?_
  refine lv_lload_n hx hb d_Ma_floorDiv_1 rfl (lv_at hl 1 rfl) ?_
  obtain ⟨b1, h⟩ := ok_g h
  refine lv_ldiv hx hb d_Ma_floorDiv_2 b1 ?_
  obtain ⟨n2, en2, h⟩ := ok_n h
  refine z_tl en2 ?_
  refine lv_lstore (lv' := [(4, .long n2), (0, .long x0), (2, .long x2)]) hx hb d_Ma_floorDiv_3 hl (by decide) rfl (fun ls hl => ?_)
  refine lv_lload_n hx hb d_Ma_floorDiv_5 rfl (lv_at hl 1 rfl) ?_
  refine lv_lload_n hx hb d_Ma_floorDiv_6 rfl (lv_at hl 2 rfl) ?_
  refine lv_lxor hx hb d_Ma_floorDiv_7 ?_
  refine lv_lconst (v := (0 : Int64)) hx hb d_Ma_floorDiv_8 (by decide) ?_
  refine W.lcmp hx hb d_Ma_floorDiv_9 ?_
  refine lv_if_ge (tgt := 27) hx hb d_Ma_floorDiv_10 (by decide) (fun c3 => ?_) (fun c3 => ?_)
  · have h := ok_t h ((lg_cmp_ge _ _).mp c3)
    exact w_Ma_floorDivM_27 o C0 q n2 h H locs ls hw (lv_sub hl [0] rfl)
  · have h := ok_f h (fun z => c3 ((lg_cmp_ge _ _).mpr z))
    refine lv_lload hx hb d_Ma_floorDiv_13 (lv_at hl 0 rfl) ?_
    refine lv_lload_n hx hb d_Ma_floorDiv_15 rfl (lv_at hl 2 rfl) ?_
    refine lv_lmul hx hb d_Ma_floorDiv_16 ?_
    refine lv_lload_n hx hb d_Ma_floorDiv_17 rfl (lv_at hl 1 rfl) ?_
    refine W.lcmp hx hb d_Ma_floorDiv_18 ?_
    refine lv_if_eq (tgt := 27) hx hb d_Ma_floorDiv_19 (by decide) (fun c4 => ?_) (fun c4 => ?_)
    · have h := ok_t h ((lg_cmp_eq _ _).mp c4)
      exact w_Ma_floorDivM_27 o C0 q n2 h H locs ls hw (lv_sub hl [0] rfl)
    · have h := ok_f h (fun z => c4 ((lg_cmp_eq _ _).mpr z))
      refine lv_lload hx hb d_Ma_floorDiv_22 (lv_at hl 0 rfl) ?_
      refine lv_lconst (v := (1 : Int64)) hx hb d_Ma_floorDiv_24 (by decide) ?_
      refine lv_lsub hx hb d_Ma_floorDiv_25 ?_
      have ho := Option.some.inj h
      subst ho
      exact z_rtl C0 hw d_Ma_floorDiv_26
def k_Mo_bit_239 (q : z_Sg) : Option z_Sg :=
  (f_Mo_leave (6 : Int32) q).bind (fun r22 => (f_Mo_leave (4 : Int32) r22).bind (fun r23 => (f_Mo_leave (2 : Int32) r23).bind (fun r24 => (f_Mo_leave (1 : Int32) r24).bind (fun r25 => some r25))))
def k_Mo_bit_223 (x2 : Int32) (x5 : Int32) (x7 : Int64) (x9 : Int64) (q : z_Sg) : Option z_Sg :=
  if x5 = (3 : Int32) then ((f_Mo_setE x2 (x7 ^^^ x9) q).bind (fun r26 => k_Mo_bit_239 r26)) else (k_Mo_bit_239 q)
def k_Mo_bit_203 (x2 : Int32) (x5 : Int32) (x7 : Int64) (x9 : Int64) (q : z_Sg) : Option z_Sg :=
  if x5 = (2 : Int32) then ((f_Mo_setE x2 (x7 &&& (x9 ^^^ (-1 : Int64))) q).bind (fun r27 => k_Mo_bit_223 x2 x5 x7 x9 r27)) else (k_Mo_bit_223 x2 x5 x7 x9 q)
def k_Mo_bit_180 (x2 : Int32) (x5 : Int32) (x6 : Int32) (x7 : Int64) (t1 : Int32) (t2 : Int32) (q : z_Sg) : Option z_Sg :=
  if z_bad t1 7 then none else (z_nm (z_sN q 1 t1.toNatClampNeg (vp_nar .boolean t2)) (fun q17 => z_nm ((z_lshl (1 : Int64) x6)) (fun n18 => if x5 = (1 : Int32) then ((f_Mo_setE x2 (x7 ||| n18) q17).bind (fun r28 => k_Mo_bit_203 x2 x5 x7 n18 r28)) else (k_Mo_bit_203 x2 x5 x7 n18 q17))))
def k_Mo_bit_153 (x2 : Int32) (x5 : Int32) (x6 : Int32) (t1 : Int32) (t2 : Int32) (q : z_Sg) : Option z_Sg :=
  (f_Mo_e t1 t2 q).bind (fun r14 => if ((z_lushr r14.1 x6) &&& (1 : Int64)) = (1 : Int64) then (k_Mo_bit_180 x2 x5 x6 r14.1 (0 : Int32) (1 : Int32) r14.2) else (k_Mo_bit_180 x2 x5 x6 r14.1 (0 : Int32) (0 : Int32) r14.2))
def k_Mo_bit_141 (x2 : Int32) (x5 : Int32) (x6 : Int32) (q : z_Sg) : Option z_Sg :=
  if x5 = 0 then (k_Mo_bit_153 x2 x5 x6 x2 (0 : Int32) q) else (k_Mo_bit_153 x2 x5 x6 x2 (1 : Int32) q)
def k_Mo_bit_97 (x1 : Int32) (x2 : Int32) (x3 : Int64) (t0 : Int32) (q : z_Sg) : Option z_Sg :=
  (f_Ma_floorModM x3 ((8 : Int64) * (x2.toInt64)) q).bind (fun r10 => z_nm ((r10.toInt32)) (fun n11 => if x1 = (186 : Int32) then (k_Mo_bit_141 x2 t0 n11 q) else ((f_Ma_floorDivM x3 ((8 : Int64) * (x2.toInt64)) q).bind (fun r29 => z_nm (z_sL q 6 ((z_gL q 6) + ((x2.toInt64) * r29))) (fun q30 => k_Mo_bit_141 x2 t0 n11 q30)))))
def k_Mo_bit_58 (x1 : Int32) (x2 : Int32) (t0 : Int64) (q : z_Sg) : Option z_Sg :=
  z_nm (z_sL q 7 ((z_gL q 0) + ((z_gI q 6).toInt64))) (fun q8 => if x1 = (186 : Int32) then (k_Mo_bit_97 x1 x2 t0 ((z_gI q8 8) - (4 : Int32)) q8) else (k_Mo_bit_97 x1 x2 t0 ((x1 - (163 : Int32)) / (8 : Int32)) q8))
def k_Mo_bit_30 (x1 : Int32) (x2 : Int32) (q : z_Sg) : Option z_Sg :=
  (f_Mo_takePlace q).bind (fun r4 => if x1 = (186 : Int32) then ((f_Mo_fetch r4).bind (fun r31 => k_Mo_bit_58 x1 x2 (r31.1.toInt64) r31.2)) else ((f_Mo_g x2 r4).bind (fun r6 => (f_Mo_extended r6 x2 r4).bind (fun r7 => k_Mo_bit_58 x1 x2 r7 r4))))
def f_Mo_bit (x1 : Int32) (q : z_Sg) : Option z_Sg :=
  (f_Mo_wide q).bind (fun r1 => (f_Mo_takeMod q).bind (fun r2 => if x1 = (186 : Int32) then (if (4 : Int32) ≤ (z_gI r2 8) then (k_Mo_bit_30 x1 r1 r2) else ((f_Mo_refuse (6 : Int32) r2).bind (fun r33 => k_Mo_bit_30 x1 r1 r33))) else (k_Mo_bit_30 x1 r1 r2)))
set_option maxHeartbeats 4000000 in
set_option maxRecDepth 100000 in
theorem w_Mo_bit_239 {p : Program} {l : Launch} {e : Env} {s : State} {m : MethodId} {args : Array Value} {below : List Frame} {meth : Method} {c : Code} {D : va_G} {A : Nat → Prop} {ad : Nat → Nat} {ca : Nat → ClassId} (o : z_Sg) (C0 : z_cx z_RMo b_Mo_bit 11 none D (z_Mt ca) A p s m args meth c) (q : z_Sg) (h : k_Mo_bit_239 q = some o) : ∀ (H : Heap) (locs : List Loc) (ls : Array Slot), z_wd D (z_M ad ca q) A s H locs → lv_has ls 11 [(0, .ref (ad 0))] → W p l e (z_rm 7 173) s m args below meth c H locs 0 0 (z_qv below D (z_Mt ca) (z_M ad ca o) A s args) (F0 m 239 ls []) := by
  obtain ⟨hx, hb, hr, hlk, hml, hown, hts, hK, hA⟩ := id C0
  intro H locs ls hw hl
  refine lv_aload_n hx hb d_Mo_bit_239 rfl (lv_at hl 0 rfl) ?_
  refine lv_bipush (v := (6 : Int32)) hx hb d_Mo_bit_240 (by decide) ?_
  obtain ⟨r22, er22, h⟩ := ok_b h
  refine z_vv (rest := []) C0 hw (c_Mo_leave (6 : Int32) q r22 er22) mw_Mo_leave ml_Mo_219 0 rfl ⟨Nat.le_of_ble_eq_true rfl, Nat.le_of_ble_eq_true rfl⟩ ⟨Nat.le_refl 0, Nat.le_refl 0⟩ rfl hl.1 rfl (Nat.le_of_ble_eq_true rfl) d_Mo_bit_242 (fun H locs hw => ?_)
  refine lv_aload_n hx hb d_Mo_bit_245 rfl (lv_at hl 0 rfl) ?_
  refine lv_iconst (v := (4 : Int32)) hx hb d_Mo_bit_246 (by decide) ?_
  obtain ⟨r23, er23, h⟩ := ok_b h
  refine z_vv (rest := []) C0 hw (c_Mo_leave (4 : Int32) r22 r23 er23) mw_Mo_leave ml_Mo_219 0 rfl ⟨Nat.le_of_ble_eq_true rfl, Nat.le_of_ble_eq_true rfl⟩ ⟨Nat.le_refl 0, Nat.le_refl 0⟩ rfl hl.1 rfl (Nat.le_of_ble_eq_true rfl) d_Mo_bit_247 (fun H locs hw => ?_)
  refine lv_aload_n hx hb d_Mo_bit_250 rfl (lv_at hl 0 rfl) ?_
  refine lv_iconst (v := (2 : Int32)) hx hb d_Mo_bit_251 (by decide) ?_
  obtain ⟨r24, er24, h⟩ := ok_b h
  refine z_vv (rest := []) C0 hw (c_Mo_leave (2 : Int32) r23 r24 er24) mw_Mo_leave ml_Mo_219 0 rfl ⟨Nat.le_of_ble_eq_true rfl, Nat.le_of_ble_eq_true rfl⟩ ⟨Nat.le_refl 0, Nat.le_refl 0⟩ rfl hl.1 rfl (Nat.le_of_ble_eq_true rfl) d_Mo_bit_252 (fun H locs hw => ?_)
  refine lv_aload_n hx hb d_Mo_bit_255 rfl (lv_at hl 0 rfl) ?_
  refine lv_iconst (v := (1 : Int32)) hx hb d_Mo_bit_256 (by decide) ?_
  obtain ⟨r25, er25, h⟩ := ok_b h
  refine z_vv (rest := []) C0 hw (c_Mo_leave (1 : Int32) r24 r25 er25) mw_Mo_leave ml_Mo_219 0 rfl ⟨Nat.le_of_ble_eq_true rfl, Nat.le_of_ble_eq_true rfl⟩ ⟨Nat.le_refl 0, Nat.le_refl 0⟩ rfl hl.1 rfl (Nat.le_of_ble_eq_true rfl) d_Mo_bit_257 (fun H locs hw => ?_)
  have ho := Option.some.inj h
  subst ho
  exact z_rtv C0 hw d_Mo_bit_260
set_option maxHeartbeats 4000000 in
set_option maxRecDepth 100000 in
theorem w_Mo_bit_223 {p : Program} {l : Launch} {e : Env} {s : State} {m : MethodId} {args : Array Value} {below : List Frame} {meth : Method} {c : Code} {D : va_G} {A : Nat → Prop} {ad : Nat → Nat} {ca : Nat → ClassId} (o : z_Sg) (C0 : z_cx z_RMo b_Mo_bit 11 none D (z_Mt ca) A p s m args meth c) (q : z_Sg) (x2 : Int32) (x5 : Int32) (x7 : Int64) (x9 : Int64) (h : k_Mo_bit_223 x2 x5 x7 x9 q = some o) : ∀ (H : Heap) (locs : List Loc) (ls : Array Slot), z_wd D (z_M ad ca q) A s H locs → lv_has ls 11 [(0, .ref (ad 0)), (2, .int x2), (5, .int x5), (7, .long x7), (9, .long x9)] → W p l e (z_rm 7 173) s m args below meth c H locs 0 0 (z_qv below D (z_Mt ca) (z_M ad ca o) A s args) (F0 m 223 ls []) := by
  obtain ⟨hx, hb, hr, hlk, hml, hown, hts, hK, hA⟩ := id C0
  intro H locs ls hw hl
  refine lv_iload hx hb d_Mo_bit_223 (lv_at hl 2 rfl) ?_
  refine lv_iconst (v := (3 : Int32)) hx hb d_Mo_bit_225 (by decide) ?_
  refine lv_icmp_ne (tgt := 239) hx hb d_Mo_bit_226 (by decide) (fun c21 => ?_) (fun c21 => ?_)
  · have h := ok_f h c21
    exact w_Mo_bit_239 o C0 q h H locs ls hw (lv_sub hl [0] rfl)
  · have h := ok_t h c21
    refine lv_aload_n hx hb d_Mo_bit_229 rfl (lv_at hl 0 rfl) ?_
    refine lv_iload_n hx hb d_Mo_bit_230 rfl (lv_at hl 1 rfl) ?_
    refine lv_lload hx hb d_Mo_bit_231 (lv_at hl 3 rfl) ?_
    refine lv_lload hx hb d_Mo_bit_233 (lv_at hl 4 rfl) ?_
    refine lv_lxor hx hb d_Mo_bit_235 ?_
    obtain ⟨r26, er26, h⟩ := ok_b h
    refine z_vv (rest := []) C0 hw (c_Mo_setE x2 (x7 ^^^ x9) q r26 er26) mw_Mo_setE ml_Mo_348 0 rfl ⟨Nat.le_of_ble_eq_true rfl, Nat.le_of_ble_eq_true rfl⟩ ⟨Nat.le_refl 0, Nat.le_refl 0⟩ rfl hl.1 rfl (Nat.le_of_ble_eq_true rfl) d_Mo_bit_236 (fun H locs hw => ?_)
    exact w_Mo_bit_239 o C0 r26 h H locs ls hw (lv_sub hl [0] rfl)
set_option maxHeartbeats 4000000 in
set_option maxRecDepth 100000 in
theorem w_Mo_bit_203 {p : Program} {l : Launch} {e : Env} {s : State} {m : MethodId} {args : Array Value} {below : List Frame} {meth : Method} {c : Code} {D : va_G} {A : Nat → Prop} {ad : Nat → Nat} {ca : Nat → ClassId} (o : z_Sg) (C0 : z_cx z_RMo b_Mo_bit 11 none D (z_Mt ca) A p s m args meth c) (q : z_Sg) (x2 : Int32) (x5 : Int32) (x7 : Int64) (x9 : Int64) (h : k_Mo_bit_203 x2 x5 x7 x9 q = some o) : ∀ (H : Heap) (locs : List Loc) (ls : Array Slot), z_wd D (z_M ad ca q) A s H locs → lv_has ls 11 [(0, .ref (ad 0)), (2, .int x2), (5, .int x5), (7, .long x7), (9, .long x9)] → W p l e (z_rm 7 173) s m args below meth c H locs 0 0 (z_qv below D (z_Mt ca) (z_M ad ca o) A s args) (F0 m 203 ls []) := by
  obtain ⟨hx, hb, hr, hlk, hml, hown, hts, hK, hA⟩ := id C0
  intro H locs ls hw hl
  refine lv_iload hx hb d_Mo_bit_203 (lv_at hl 2 rfl) ?_
  refine lv_iconst (v := (2 : Int32)) hx hb d_Mo_bit_205 (by decide) ?_
  refine lv_icmp_ne (tgt := 223) hx hb d_Mo_bit_206 (by decide) (fun c20 => ?_) (fun c20 => ?_)
  · have h := ok_f h c20
    exact w_Mo_bit_223 o C0 q x2 x5 x7 x9 h H locs ls hw (lv_sub hl [0, 1, 2, 3, 4] rfl)
  · have h := ok_t h c20
    refine lv_aload_n hx hb d_Mo_bit_209 rfl (lv_at hl 0 rfl) ?_
    refine lv_iload_n hx hb d_Mo_bit_210 rfl (lv_at hl 1 rfl) ?_
    refine lv_lload hx hb d_Mo_bit_211 (lv_at hl 3 rfl) ?_
    refine lv_lload hx hb d_Mo_bit_213 (lv_at hl 4 rfl) ?_
    refine lv_ldc2 (own := z_RMo) hx hb hown (hts _ kl_Mo_71) d_Mo_bit_215 ?_
    refine lv_lxor hx hb d_Mo_bit_218 ?_
    refine lv_land hx hb d_Mo_bit_219 ?_
    obtain ⟨r27, er27, h⟩ := ok_b h
    refine z_vv (rest := []) C0 hw (c_Mo_setE x2 (x7 &&& (x9 ^^^ (-1 : Int64))) q r27 er27) mw_Mo_setE ml_Mo_348 0 rfl ⟨Nat.le_of_ble_eq_true rfl, Nat.le_of_ble_eq_true rfl⟩ ⟨Nat.le_refl 0, Nat.le_refl 0⟩ rfl hl.1 rfl (Nat.le_of_ble_eq_true rfl) d_Mo_bit_220 (fun H locs hw => ?_)
    exact w_Mo_bit_223 o C0 r27 x2 x5 x7 x9 h H locs ls hw (lv_sub hl [0, 1, 2, 3, 4] rfl)
set_option maxHeartbeats 4000000 in
set_option maxRecDepth 100000 in
theorem w_Mo_bit_180 {p : Program} {l : Launch} {e : Env} {s : State} {m : MethodId} {args : Array Value} {below : List Frame} {meth : Method} {c : Code} {D : va_G} {A : Nat → Prop} {ad : Nat → Nat} {ca : Nat → ClassId} (o : z_Sg) (C0 : z_cx z_RMo b_Mo_bit 11 none D (z_Mt ca) A p s m args meth c) (q : z_Sg) (x2 : Int32) (x5 : Int32) (x6 : Int32) (x7 : Int64) (t1 : Int32) (t2 : Int32) (h : k_Mo_bit_180 x2 x5 x6 x7 t1 t2 q = some o) : ∀ (H : Heap) (locs : List Loc) (ls : Array Slot), z_wd D (z_M ad ca q) A s H locs → lv_has ls 11 [(0, .ref (ad 0)), (2, .int x2), (5, .int x5), (6, .int x6), (7, .long x7)] → W p l e (z_rm 7 173) s m args below meth c H locs 0 0 (z_qv below D (z_Mt ca) (z_M ad ca o) A s args) (F0 m 180 ls [.int t2, .int t1, .ref (ad 4)]) := by
  obtain ⟨hx, hb, hr, hlk, hml, hown, hts, hK, hA⟩ := id C0
  intro H locs ls hw hl
  obtain ⟨b16, h⟩ := ok_g h
  refine asM_4 C0 hw b16 d_Mo_bit_180 (fun H locs hw => ?_)
  obtain ⟨q17, eq17, h⟩ := ok_n h
  rw [← eq17] at hw
  refine lv_lconst (v := (1 : Int64)) hx hb d_Mo_bit_181 (by decide) ?_
  refine lv_iload hx hb d_Mo_bit_182 (lv_at hl 3 rfl) ?_
  refine lv_lshl (v := (z_lshl (1 : Int64) x6)) hx hb d_Mo_bit_184 rfl ?_
  obtain ⟨n18, en18, h⟩ := ok_n h
  refine z_tl en18 ?_
  refine lv_lstore (lv' := [(9, .long n18), (0, .ref (ad 0)), (2, .int x2), (5, .int x5), (6, .int x6), (7, .long x7)]) hx hb d_Mo_bit_185 hl (by decide) rfl (fun ls hl => ?_)
  refine lv_iload hx hb d_Mo_bit_187 (lv_at hl 3 rfl) ?_
  refine lv_iconst (v := (1 : Int32)) hx hb d_Mo_bit_189 (by decide) ?_
  refine lv_icmp_ne (tgt := 203) hx hb d_Mo_bit_190 (by decide) (fun c19 => ?_) (fun c19 => ?_)
  · have h := ok_f h c19
    exact w_Mo_bit_203 o C0 q17 x2 x5 x7 n18 h H locs ls hw (lv_sub hl [1, 2, 3, 5, 0] rfl)
  · have h := ok_t h c19
    refine lv_aload_n hx hb d_Mo_bit_193 rfl (lv_at hl 1 rfl) ?_
    refine lv_iload_n hx hb d_Mo_bit_194 rfl (lv_at hl 2 rfl) ?_
    refine lv_lload hx hb d_Mo_bit_195 (lv_at hl 5 rfl) ?_
    refine lv_lload hx hb d_Mo_bit_197 (lv_at hl 0 rfl) ?_
    refine lv_lor hx hb d_Mo_bit_199 ?_
    obtain ⟨r28, er28, h⟩ := ok_b h
    refine z_vv (rest := []) C0 hw (c_Mo_setE x2 (x7 ||| n18) q17 r28 er28) mw_Mo_setE ml_Mo_348 0 rfl ⟨Nat.le_of_ble_eq_true rfl, Nat.le_of_ble_eq_true rfl⟩ ⟨Nat.le_refl 0, Nat.le_refl 0⟩ rfl hl.1 rfl (Nat.le_of_ble_eq_true rfl) d_Mo_bit_200 (fun H locs hw => ?_)
    exact w_Mo_bit_203 o C0 r28 x2 x5 x7 n18 h H locs ls hw (lv_sub hl [1, 2, 3, 5, 0] rfl)
set_option maxHeartbeats 4000000 in
set_option maxRecDepth 100000 in
theorem w_Mo_bit_153 {p : Program} {l : Launch} {e : Env} {s : State} {m : MethodId} {args : Array Value} {below : List Frame} {meth : Method} {c : Code} {D : va_G} {A : Nat → Prop} {ad : Nat → Nat} {ca : Nat → ClassId} (o : z_Sg) (C0 : z_cx z_RMo b_Mo_bit 11 none D (z_Mt ca) A p s m args meth c) (q : z_Sg) (x2 : Int32) (x5 : Int32) (x6 : Int32) (t1 : Int32) (t2 : Int32) (h : k_Mo_bit_153 x2 x5 x6 t1 t2 q = some o) : ∀ (H : Heap) (locs : List Loc) (ls : Array Slot), z_wd D (z_M ad ca q) A s H locs → lv_has ls 11 [(0, .ref (ad 0)), (2, .int x2), (5, .int x5), (6, .int x6)] → W p l e (z_rm 7 173) s m args below meth c H locs 0 0 (z_qv below D (z_Mt ca) (z_M ad ca o) A s args) (F0 m 153 ls [.int t2, .int t1, .ref (ad 0)]) := by
  obtain ⟨hx, hb, hr, hlk, hml, hown, hts, hK, hA⟩ := id C0
  intro H locs ls hw hl
  obtain ⟨r14, er14, h⟩ := ok_b h
  refine z_vl (rest := []) C0 hw (c_Mo_e t1 t2 q r14 er14) mw_Mo_e ml_Mo_338 0 rfl ⟨Nat.le_of_ble_eq_true rfl, Nat.le_of_ble_eq_true rfl⟩ ⟨Nat.le_refl 0, Nat.le_refl 0⟩ rfl hl.1 rfl (Nat.le_of_ble_eq_true rfl) d_Mo_bit_153 (fun H locs hw => ?_)
  refine lv_lstore (lv' := [(7, .long r14.1), (0, .ref (ad 0)), (2, .int x2), (5, .int x5), (6, .int x6)]) hx hb d_Mo_bit_156 hl (by decide) rfl (fun ls hl => ?_)
  refine lv_aload_n hx hb d_Mo_bit_158 rfl (lv_at hl 1 rfl) ?_
  refine gfM_0_flag C0 hw fl_Mo_21 d_Mo_bit_159 ?_
  refine lv_iconst (v := (0 : Int32)) hx hb d_Mo_bit_162 (by decide) ?_
  refine lv_lload hx hb d_Mo_bit_163 (lv_at hl 0 rfl) ?_
  refine lv_iload hx hb d_Mo_bit_165 (lv_at hl 4 rfl) ?_
  refine lv_lushr (v := (z_lushr r14.1 x6)) hx hb d_Mo_bit_167 rfl ?_
  refine lv_lconst (v := (1 : Int64)) hx hb d_Mo_bit_168 (by decide) ?_
  refine lv_land hx hb d_Mo_bit_169 ?_
  refine lv_lconst (v := (1 : Int64)) hx hb d_Mo_bit_170 (by decide) ?_
  refine W.lcmp hx hb d_Mo_bit_171 ?_
  refine lv_if_ne (tgt := 179) hx hb d_Mo_bit_172 (by decide) (fun c15 => ?_) (fun c15 => ?_)
  · have h := ok_f h (fun z => c15 ((lg_cmp_eq _ _).mpr z))
    refine lv_iconst (v := (0 : Int32)) hx hb d_Mo_bit_179 (by decide) ?_
    exact w_Mo_bit_180 o C0 r14.2 x2 x5 x6 r14.1 (0 : Int32) (0 : Int32) h H locs ls hw (lv_sub hl [1, 2, 3, 4, 0] rfl)
  · have h := ok_t h ((lg_cmp_eq _ _).mp c15)
    refine lv_iconst (v := (1 : Int32)) hx hb d_Mo_bit_175 (by decide) ?_
    refine lv_goto (tgt := 180) hx hb d_Mo_bit_176 (by decide) ?_
    exact w_Mo_bit_180 o C0 r14.2 x2 x5 x6 r14.1 (0 : Int32) (1 : Int32) h H locs ls hw (lv_sub hl [1, 2, 3, 4, 0] rfl)
set_option maxHeartbeats 4000000 in
set_option maxRecDepth 100000 in
theorem w_Mo_bit_141 {p : Program} {l : Launch} {e : Env} {s : State} {m : MethodId} {args : Array Value} {below : List Frame} {meth : Method} {c : Code} {D : va_G} {A : Nat → Prop} {ad : Nat → Nat} {ca : Nat → ClassId} (o : z_Sg) (C0 : z_cx z_RMo b_Mo_bit 11 none D (z_Mt ca) A p s m args meth c) (q : z_Sg) (x2 : Int32) (x5 : Int32) (x6 : Int32) (h : k_Mo_bit_141 x2 x5 x6 q = some o) : ∀ (H : Heap) (locs : List Loc) (ls : Array Slot), z_wd D (z_M ad ca q) A s H locs → lv_has ls 11 [(0, .ref (ad 0)), (2, .int x2), (5, .int x5), (6, .int x6)] → W p l e (z_rm 7 173) s m args below meth c H locs 0 0 (z_qv below D (z_Mt ca) (z_M ad ca o) A s args) (F0 m 141 ls []) := by
  obtain ⟨hx, hb, hr, hlk, hml, hown, hts, hK, hA⟩ := id C0
  intro H locs ls hw hl
  refine lv_aload_n hx hb d_Mo_bit_141 rfl (lv_at hl 0 rfl) ?_
  refine lv_iload_n hx hb d_Mo_bit_142 rfl (lv_at hl 1 rfl) ?_
  refine lv_iload hx hb d_Mo_bit_143 (lv_at hl 2 rfl) ?_
  refine lv_if_ne (tgt := 152) hx hb d_Mo_bit_145 (by decide) (fun c13 => ?_) (fun c13 => ?_)
  · have h := ok_f h c13
    refine lv_iconst (v := (1 : Int32)) hx hb d_Mo_bit_152 (by decide) ?_
    exact w_Mo_bit_153 o C0 q x2 x5 x6 x2 (1 : Int32) h H locs ls hw (lv_sub hl [0, 1, 2, 3] rfl)
  · have h := ok_t h c13
    refine lv_iconst (v := (0 : Int32)) hx hb d_Mo_bit_148 (by decide) ?_
    refine lv_goto (tgt := 153) hx hb d_Mo_bit_149 (by decide) ?_
    exact w_Mo_bit_153 o C0 q x2 x5 x6 x2 (0 : Int32) h H locs ls hw (lv_sub hl [0, 1, 2, 3] rfl)
set_option maxHeartbeats 4000000 in
set_option maxRecDepth 100000 in
theorem w_Mo_bit_97 {p : Program} {l : Launch} {e : Env} {s : State} {m : MethodId} {args : Array Value} {below : List Frame} {meth : Method} {c : Code} {D : va_G} {A : Nat → Prop} {ad : Nat → Nat} {ca : Nat → ClassId} (o : z_Sg) (C0 : z_cx z_RMo b_Mo_bit 11 none D (z_Mt ca) A p s m args meth c) (q : z_Sg) (x1 : Int32) (x2 : Int32) (x3 : Int64) (t0 : Int32) (h : k_Mo_bit_97 x1 x2 x3 t0 q = some o) : ∀ (H : Heap) (locs : List Loc) (ls : Array Slot), z_wd D (z_M ad ca q) A s H locs → lv_has ls 11 [(0, .ref (ad 0)), (1, .int x1), (2, .int x2), (3, .long x3)] → W p l e (z_rm 7 173) s m args below meth c H locs 0 0 (z_qv below D (z_Mt ca) (z_M ad ca o) A s args) (F0 m 97 ls [.int t0]) := by
  obtain ⟨hx, hb, hr, hlk, hml, hown, hts, hK, hA⟩ := id C0
  intro H locs ls hw hl
  refine lv_istore (lv' := [(5, .int t0), (0, .ref (ad 0)), (1, .int x1), (2, .int x2), (3, .long x3)]) hx hb d_Mo_bit_97 hl (by decide) rfl (fun ls hl => ?_)
  refine lv_lload_n hx hb d_Mo_bit_99 rfl (lv_at hl 4 rfl) ?_
  refine lv_ldc2 (own := z_RMo) hx hb hown (hts _ kl_Mo_60) d_Mo_bit_100 ?_
  refine lv_iload_n hx hb d_Mo_bit_103 rfl (lv_at hl 3 rfl) ?_
  refine lv_i2l hx hb d_Mo_bit_104 rfl ?_
  refine lv_lmul hx hb d_Mo_bit_105 ?_
  obtain ⟨r10, er10, h⟩ := ok_b h
  refine z_sl (rest := []) C0 hw (c_Ma_floorModM x3 ((8 : Int64) * (x2.toInt64)) q r10 er10) mw_Ma_floorMod ml_Mo_422 ⟨Nat.le_of_ble_eq_true rfl, Nat.le_of_ble_eq_true rfl⟩ ⟨Nat.le_refl 0, Nat.le_refl 0⟩ rfl hl.1 rfl (Nat.le_of_ble_eq_true rfl) d_Mo_bit_106 (fun H locs hw => ?_)
  refine lv_l2i hx hb d_Mo_bit_109 rfl ?_
  obtain ⟨n11, en11, h⟩ := ok_n h
  refine z_ti en11 ?_
  refine lv_istore (lv' := [(6, .int n11), (5, .int t0), (0, .ref (ad 0)), (1, .int x1), (2, .int x2), (3, .long x3)]) hx hb d_Mo_bit_110 hl (by decide) rfl (fun ls hl => ?_)
  refine lv_iload_n hx hb d_Mo_bit_112 rfl (lv_at hl 3 rfl) ?_
  refine lv_sipush (v := (186 : Int32)) hx hb d_Mo_bit_113 (by decide) ?_
  refine lv_icmp_eq (tgt := 141) hx hb d_Mo_bit_116 (by decide) (fun c12 => ?_) (fun c12 => ?_)
  · have h := ok_t h c12
    exact w_Mo_bit_141 o C0 q x2 t0 n11 h H locs ls hw (lv_sub hl [2, 4, 1, 0] rfl)
  · have h := ok_f h c12
    refine lv_aload_n hx hb d_Mo_bit_119 rfl (lv_at hl 2 rfl) ?_
    refine lv_dup hx hb d_Mo_bit_120 rfl ?_
    refine gfM_0_displacement C0 hw fl_Mo_154 d_Mo_bit_121 ?_
    refine lv_iload_n hx hb d_Mo_bit_124 rfl (lv_at hl 4 rfl) ?_
    refine lv_i2l hx hb d_Mo_bit_125 rfl ?_
    refine lv_lload_n hx hb d_Mo_bit_126 rfl (lv_at hl 5 rfl) ?_
    refine lv_ldc2 (own := z_RMo) hx hb hown (hts _ kl_Mo_60) d_Mo_bit_127 ?_
    refine lv_iload_n hx hb d_Mo_bit_130 rfl (lv_at hl 4 rfl) ?_
    refine lv_i2l hx hb d_Mo_bit_131 rfl ?_
    refine lv_lmul hx hb d_Mo_bit_132 ?_
    obtain ⟨r29, er29, h⟩ := ok_b h
    refine z_sl (rest := [.long (x2.toInt64), .long (z_gL q 6), .ref (ad 0)]) C0 hw (c_Ma_floorDivM x3 ((8 : Int64) * (x2.toInt64)) q r29 er29) mw_Ma_floorDiv ml_Mo_428 ⟨Nat.le_of_ble_eq_true rfl, Nat.le_of_ble_eq_true rfl⟩ ⟨Nat.le_refl 0, Nat.le_refl 0⟩ rfl hl.1 rfl (Nat.le_of_ble_eq_true rfl) d_Mo_bit_133 (fun H locs hw => ?_)
    refine lv_lmul hx hb d_Mo_bit_136 ?_
    refine lv_ladd hx hb d_Mo_bit_137 ?_
    refine pfM_0_displacement C0 hw fl_Mo_154 d_Mo_bit_138 (fun H locs hw => ?_)
    obtain ⟨q30, eq30, h⟩ := ok_n h
    rw [← eq30] at hw
    exact w_Mo_bit_141 o C0 q30 x2 t0 n11 h H locs ls hw (lv_sub hl [2, 4, 1, 0] rfl)
set_option maxHeartbeats 4000000 in
set_option maxRecDepth 100000 in
theorem w_Mo_bit_58 {p : Program} {l : Launch} {e : Env} {s : State} {m : MethodId} {args : Array Value} {below : List Frame} {meth : Method} {c : Code} {D : va_G} {A : Nat → Prop} {ad : Nat → Nat} {ca : Nat → ClassId} (o : z_Sg) (C0 : z_cx z_RMo b_Mo_bit 11 none D (z_Mt ca) A p s m args meth c) (q : z_Sg) (x1 : Int32) (x2 : Int32) (t0 : Int64) (h : k_Mo_bit_58 x1 x2 t0 q = some o) : ∀ (H : Heap) (locs : List Loc) (ls : Array Slot), z_wd D (z_M ad ca q) A s H locs → lv_has ls 11 [(0, .ref (ad 0)), (1, .int x1), (2, .int x2)] → W p l e (z_rm 7 173) s m args below meth c H locs 0 0 (z_qv below D (z_Mt ca) (z_M ad ca o) A s args) (F0 m 58 ls [.long t0]) := by
  obtain ⟨hx, hb, hr, hlk, hml, hown, hts, hK, hA⟩ := id C0
  intro H locs ls hw hl
  refine lv_lstore_n (lv' := [(3, .long t0), (0, .ref (ad 0)), (1, .int x1), (2, .int x2)]) hx hb d_Mo_bit_58 rfl hl (by decide) rfl (fun ls hl => ?_)
  refine lv_aload_n hx hb d_Mo_bit_59 rfl (lv_at hl 1 rfl) ?_
  refine lv_aload_n hx hb d_Mo_bit_60 rfl (lv_at hl 1 rfl) ?_
  refine gfM_0_next C0 hw fl_Mo_111 d_Mo_bit_61 ?_
  refine lv_aload_n hx hb d_Mo_bit_64 rfl (lv_at hl 1 rfl) ?_
  refine gfM_0_length C0 hw fl_Mo_108 d_Mo_bit_65 ?_
  refine lv_i2l hx hb d_Mo_bit_68 rfl ?_
  refine lv_ladd hx hb d_Mo_bit_69 ?_
  refine pfM_0_goes C0 hw fl_Mo_173 d_Mo_bit_70 (fun H locs hw => ?_)
  obtain ⟨q8, eq8, h⟩ := ok_n h
  rw [← eq8] at hw
  refine lv_iload_n hx hb d_Mo_bit_73 rfl (lv_at hl 2 rfl) ?_
  refine lv_sipush (v := (186 : Int32)) hx hb d_Mo_bit_74 (by decide) ?_
  refine lv_icmp_ne (tgt := 89) hx hb d_Mo_bit_77 (by decide) (fun c9 => ?_) (fun c9 => ?_)
  · have h := ok_f h c9
    refine lv_iload_n hx hb d_Mo_bit_89 rfl (lv_at hl 2 rfl) ?_
    refine lv_sipush (v := (163 : Int32)) hx hb d_Mo_bit_90 (by decide) ?_
    refine lv_isub hx hb d_Mo_bit_93 ?_
    refine lv_bipush (v := (8 : Int32)) hx hb d_Mo_bit_94 (by decide) ?_
    refine lv_idiv hx hb d_Mo_bit_96 (by decide) ?_
    exact w_Mo_bit_97 o C0 q8 x1 x2 t0 ((x1 - (163 : Int32)) / (8 : Int32)) h H locs ls hw (lv_sub hl [1, 2, 3, 0] rfl)
  · have h := ok_t h c9
    refine lv_aload_n hx hb d_Mo_bit_80 rfl (lv_at hl 1 rfl) ?_
    refine gfM_0_reg C0 hw fl_Mo_139 d_Mo_bit_81 ?_
    refine lv_iconst (v := (4 : Int32)) hx hb d_Mo_bit_84 (by decide) ?_
    refine lv_isub hx hb d_Mo_bit_85 ?_
    refine lv_goto (tgt := 97) hx hb d_Mo_bit_86 (by decide) ?_
    exact w_Mo_bit_97 o C0 q8 x1 x2 t0 ((z_gI q8 8) - (4 : Int32)) h H locs ls hw (lv_sub hl [1, 2, 3, 0] rfl)
set_option maxHeartbeats 4000000 in
set_option maxRecDepth 100000 in
theorem w_Mo_bit_30 {p : Program} {l : Launch} {e : Env} {s : State} {m : MethodId} {args : Array Value} {below : List Frame} {meth : Method} {c : Code} {D : va_G} {A : Nat → Prop} {ad : Nat → Nat} {ca : Nat → ClassId} (o : z_Sg) (C0 : z_cx z_RMo b_Mo_bit 11 none D (z_Mt ca) A p s m args meth c) (q : z_Sg) (x1 : Int32) (x2 : Int32) (h : k_Mo_bit_30 x1 x2 q = some o) : ∀ (H : Heap) (locs : List Loc) (ls : Array Slot), z_wd D (z_M ad ca q) A s H locs → lv_has ls 11 [(0, .ref (ad 0)), (1, .int x1), (2, .int x2)] → W p l e (z_rm 7 173) s m args below meth c H locs 0 0 (z_qv below D (z_Mt ca) (z_M ad ca o) A s args) (F0 m 30 ls []) := by
  obtain ⟨hx, hb, hr, hlk, hml, hown, hts, hK, hA⟩ := id C0
  intro H locs ls hw hl
  refine lv_aload_n hx hb d_Mo_bit_30 rfl (lv_at hl 0 rfl) ?_
  obtain ⟨r4, er4, h⟩ := ok_b h
  refine z_vv (rest := []) C0 hw (c_Mo_takePlace q r4 er4) mw_Mo_takePlace ml_Mo_170 0 rfl ⟨Nat.le_of_ble_eq_true rfl, Nat.le_of_ble_eq_true rfl⟩ ⟨Nat.le_refl 0, Nat.le_refl 0⟩ rfl hl.1 rfl (Nat.le_of_ble_eq_true rfl) d_Mo_bit_31 (fun H locs hw => ?_)
  refine lv_iload_n hx hb d_Mo_bit_34 rfl (lv_at hl 1 rfl) ?_
  refine lv_sipush (v := (186 : Int32)) hx hb d_Mo_bit_35 (by decide) ?_
  refine lv_icmp_ne (tgt := 49) hx hb d_Mo_bit_38 (by decide) (fun c5 => ?_) (fun c5 => ?_)
  · have h := ok_f h c5
    refine lv_aload_n hx hb d_Mo_bit_49 rfl (lv_at hl 0 rfl) ?_
    refine lv_iload_n hx hb d_Mo_bit_50 rfl (lv_at hl 2 rfl) ?_
    obtain ⟨r6, er6, h⟩ := ok_b h
    refine z_vl (rest := []) C0 hw (c_Mo_g x2 r4 r6 er6) mw_Mo_g ml_Mo_341 0 rfl ⟨Nat.le_of_ble_eq_true rfl, Nat.le_of_ble_eq_true rfl⟩ ⟨Nat.le_refl 0, Nat.le_refl 0⟩ rfl hl.1 rfl (Nat.le_of_ble_eq_true rfl) d_Mo_bit_51 (fun H locs hw => ?_)
    refine lv_iload_n hx hb d_Mo_bit_54 rfl (lv_at hl 2 rfl) ?_
    obtain ⟨r7, er7, h⟩ := ok_b h
    refine z_sl (rest := []) C0 hw (c_Mo_extended r6 x2 r4 r7 er7) mw_Mo_extended ml_Mo_118 ⟨Nat.le_of_ble_eq_true rfl, Nat.le_of_ble_eq_true rfl⟩ ⟨Nat.le_refl 0, Nat.le_refl 0⟩ rfl hl.1 rfl (Nat.le_of_ble_eq_true rfl) d_Mo_bit_55 (fun H locs hw => ?_)
    exact w_Mo_bit_58 o C0 r4 x1 x2 r7 h H locs ls hw (lv_sub hl [0, 1, 2] rfl)
  · have h := ok_t h c5
    refine lv_aload_n hx hb d_Mo_bit_41 rfl (lv_at hl 0 rfl) ?_
    obtain ⟨r31, er31, h⟩ := ok_b h
    refine z_vi (rest := []) C0 hw (c_Mo_fetch r4 r31 er31) mw_Mo_fetch ml_Mo_114 0 rfl ⟨Nat.le_of_ble_eq_true rfl, Nat.le_of_ble_eq_true rfl⟩ ⟨Nat.le_refl 0, Nat.le_refl 0⟩ rfl hl.1 rfl (Nat.le_of_ble_eq_true rfl) d_Mo_bit_42 (fun H locs hw => ?_)
    refine lv_i2l hx hb d_Mo_bit_45 rfl ?_
    refine lv_goto (tgt := 58) hx hb d_Mo_bit_46 (by decide) ?_
    exact w_Mo_bit_58 o C0 r31.2 x1 x2 (r31.1.toInt64) h H locs ls hw (lv_sub hl [0, 1, 2] rfl)
set_option maxHeartbeats 4000000 in
set_option maxRecDepth 100000 in
theorem c_Mo_bit {l : Launch} {D : va_G} {ad : Nat → Nat} {ca : Nat → ClassId} (x1 : Int32) (q : z_Sg) (o : z_Sg) (h : f_Mo_bit x1 q = some o) : z_cv l y_Mo_bit b_Mo_bit 11 none 7 173 D (z_Mt ca) (z_M ad ca q) (z_M ad ca o) [.ref (ad 0), .int x1] := by
  refine z_cv_of (own := z_RMo) (by decide) rfl ?_
  intro p e s m below meth c A C0 hw
  obtain ⟨hx, hb, hr, hlk, hml, hown, hts, hK, hA⟩ := id C0
  generalize hH : s.heap = H at hw ⊢
  generalize hlo : ([] : List Loc) = locs at hw ⊢
  refine z_entry (lv := [(0, .ref (ad 0)), (1, .int x1)]) (Nat.le_of_ble_eq_true rfl) rfl (fun ls hl => ?_)
  unfold f_Mo_bit at h
  refine lv_aload_n hx hb d_Mo_bit_0 rfl (lv_at hl 0 rfl) ?_
  obtain ⟨r1, er1, h⟩ := ok_b h
  refine z_vi (rest := []) C0 hw (c_Mo_wide q r1 er1) mw_Mo_wide ml_Mo_235 0 rfl ⟨Nat.le_of_ble_eq_true rfl, Nat.le_of_ble_eq_true rfl⟩ ⟨Nat.le_refl 0, Nat.le_refl 0⟩ rfl hl.1 rfl (Nat.le_of_ble_eq_true rfl) d_Mo_bit_1 (fun H locs hw => ?_)
  refine lv_istore_n (lv' := [(2, .int r1), (0, .ref (ad 0)), (1, .int x1)]) hx hb d_Mo_bit_4 rfl hl (by decide) rfl (fun ls hl => ?_)
  refine lv_aload_n hx hb d_Mo_bit_5 rfl (lv_at hl 1 rfl) ?_
  obtain ⟨r2, er2, h⟩ := ok_b h
  refine z_vv (rest := []) C0 hw (c_Mo_takeMod q r2 er2) mw_Mo_takeMod ml_Mo_167 0 rfl ⟨Nat.le_of_ble_eq_true rfl, Nat.le_of_ble_eq_true rfl⟩ ⟨Nat.le_refl 0, Nat.le_refl 0⟩ rfl hl.1 rfl (Nat.le_of_ble_eq_true rfl) d_Mo_bit_6 (fun H locs hw => ?_)
  refine lv_iload_n hx hb d_Mo_bit_9 rfl (lv_at hl 2 rfl) ?_
  refine lv_sipush (v := (186 : Int32)) hx hb d_Mo_bit_10 (by decide) ?_
  refine lv_icmp_ne (tgt := 30) hx hb d_Mo_bit_13 (by decide) (fun c3 => ?_) (fun c3 => ?_)
  · have h := ok_f h c3
    exact w_Mo_bit_30 o C0 r2 x1 r1 h H locs ls hw (lv_sub hl [1, 2, 0] rfl)
  · have h := ok_t h c3
    refine lv_aload_n hx hb d_Mo_bit_16 rfl (lv_at hl 1 rfl) ?_
    refine gfM_0_reg C0 hw fl_Mo_139 d_Mo_bit_17 ?_
    refine lv_iconst (v := (4 : Int32)) hx hb d_Mo_bit_20 (by decide) ?_
    refine lv_icmp_ge (tgt := 30) hx hb d_Mo_bit_21 (by decide) (fun c32 => ?_) (fun c32 => ?_)
    · have h := ok_t h c32
      exact w_Mo_bit_30 o C0 r2 x1 r1 h H locs ls hw (lv_sub hl [1, 2, 0] rfl)
    · have h := ok_f h c32
      refine lv_aload_n hx hb d_Mo_bit_24 rfl (lv_at hl 1 rfl) ?_
      refine lv_bipush (v := (6 : Int32)) hx hb d_Mo_bit_25 (by decide) ?_
      obtain ⟨r33, er33, h⟩ := ok_b h
      refine z_vv (rest := []) C0 hw (c_Mo_refuse (6 : Int32) r2 r33 er33) mw_Mo_refuse ml_Mo_81 0 rfl ⟨Nat.le_of_ble_eq_true rfl, Nat.le_of_ble_eq_true rfl⟩ ⟨Nat.le_refl 0, Nat.le_refl 0⟩ rfl hl.1 rfl (Nat.le_of_ble_eq_true rfl) d_Mo_bit_27 (fun H locs hw => ?_)
      exact w_Mo_bit_30 o C0 r33 x1 r1 h H locs ls hw (lv_sub hl [1, 2, 0] rfl)
def k_Mo_compareAndChange_61 (q : z_Sg) : Option z_Sg :=
  some q
def f_Mo_compareAndChange (x1 : Int32) (q : z_Sg) : Option z_Sg :=
  (f_Mo_takeOperand q).bind (fun r1 => (f_Mo_e x1 (1 : Int32) r1).bind (fun r2 => (f_Mo_get8 (0 : Int32) x1 r2.2).bind (fun r3 => (f_Mo_add r3 r2.1 (0 : Int32) (1 : Int32) x1 r2.2).bind (fun r4 => if z_bad (3 : Int32) 7 then none else (if (z_gN r4.2 1 (3 : Int32).toNatClampNeg) = 0 then ((f_Mo_setE x1 r2.1 r4.2).bind (fun r7 => (f_Mo_put8 (0 : Int32) x1 r2.1 r7).bind (fun r8 => k_Mo_compareAndChange_61 r8))) else ((f_Mo_g x1 r4.2).bind (fun r9 => (f_Mo_setE x1 r9 r4.2).bind (fun r10 => k_Mo_compareAndChange_61 r10))))))))
set_option maxHeartbeats 4000000 in
set_option maxRecDepth 100000 in
theorem w_Mo_compareAndChange_61 {p : Program} {l : Launch} {e : Env} {s : State} {m : MethodId} {args : Array Value} {below : List Frame} {meth : Method} {c : Code} {D : va_G} {A : Nat → Prop} {ad : Nat → Nat} {ca : Nat → ClassId} (o : z_Sg) (C0 : z_cx z_RMo b_Mo_compareAndChange 4 none D (z_Mt ca) A p s m args meth c) (q : z_Sg) (h : k_Mo_compareAndChange_61 q = some o) : ∀ (H : Heap) (locs : List Loc) (ls : Array Slot), z_wd D (z_M ad ca q) A s H locs → lv_has ls 4 [] → W p l e (z_rm 8 193) s m args below meth c H locs 0 0 (z_qv below D (z_Mt ca) (z_M ad ca o) A s args) (F0 m 61 ls []) := by
  obtain ⟨hx, hb, hr, hlk, hml, hown, hts, hK, hA⟩ := id C0
  intro H locs ls hw hl
  have ho := Option.some.inj h
  subst ho
  exact z_rtv C0 hw d_Mo_compareAndChange_61
set_option maxHeartbeats 4000000 in
set_option maxRecDepth 100000 in
theorem c_Mo_compareAndChange {l : Launch} {D : va_G} {ad : Nat → Nat} {ca : Nat → ClassId} (x1 : Int32) (q : z_Sg) (o : z_Sg) (h : f_Mo_compareAndChange x1 q = some o) : z_cv l y_Mo_compareAndChange b_Mo_compareAndChange 4 none 8 193 D (z_Mt ca) (z_M ad ca q) (z_M ad ca o) [.ref (ad 0), .int x1] := by
  refine z_cv_of (own := z_RMo) (by decide) rfl ?_
  intro p e s m below meth c A C0 hw
  obtain ⟨hx, hb, hr, hlk, hml, hown, hts, hK, hA⟩ := id C0
  generalize hH : s.heap = H at hw ⊢
  generalize hlo : ([] : List Loc) = locs at hw ⊢
  refine z_entry (lv := [(0, .ref (ad 0)), (1, .int x1)]) (Nat.le_of_ble_eq_true rfl) rfl (fun ls hl => ?_)
  unfold f_Mo_compareAndChange at h
  refine lv_aload_n hx hb d_Mo_compareAndChange_0 rfl (lv_at hl 0 rfl) ?_
  obtain ⟨r1, er1, h⟩ := ok_b h
  refine z_vv (rest := []) C0 hw (c_Mo_takeOperand q r1 er1) mw_Mo_takeOperand ml_Mo_335 0 rfl ⟨Nat.le_of_ble_eq_true rfl, Nat.le_of_ble_eq_true rfl⟩ ⟨Nat.le_refl 0, Nat.le_refl 0⟩ rfl hl.1 rfl (Nat.le_of_ble_eq_true rfl) d_Mo_compareAndChange_1 (fun H locs hw => ?_)
  refine lv_aload_n hx hb d_Mo_compareAndChange_4 rfl (lv_at hl 0 rfl) ?_
  refine lv_iload_n hx hb d_Mo_compareAndChange_5 rfl (lv_at hl 1 rfl) ?_
  refine lv_iconst (v := (1 : Int32)) hx hb d_Mo_compareAndChange_6 (by decide) ?_
  obtain ⟨r2, er2, h⟩ := ok_b h
  refine z_vl (rest := []) C0 hw (c_Mo_e x1 (1 : Int32) r1 r2 er2) mw_Mo_e ml_Mo_338 0 rfl ⟨Nat.le_of_ble_eq_true rfl, Nat.le_of_ble_eq_true rfl⟩ ⟨Nat.le_refl 0, Nat.le_refl 0⟩ rfl hl.1 rfl (Nat.le_of_ble_eq_true rfl) d_Mo_compareAndChange_7 (fun H locs hw => ?_)
  refine lv_lstore_n (lv' := [(2, .long r2.1), (0, .ref (ad 0)), (1, .int x1)]) hx hb d_Mo_compareAndChange_10 rfl hl (by decide) rfl (fun ls hl => ?_)
  refine lv_aload_n hx hb d_Mo_compareAndChange_11 rfl (lv_at hl 1 rfl) ?_
  refine lv_aload_n hx hb d_Mo_compareAndChange_12 rfl (lv_at hl 1 rfl) ?_
  refine lv_iconst (v := (0 : Int32)) hx hb d_Mo_compareAndChange_13 (by decide) ?_
  refine lv_iload_n hx hb d_Mo_compareAndChange_14 rfl (lv_at hl 2 rfl) ?_
  obtain ⟨r3, er3, h⟩ := ok_b h
  refine z_vl (rest := [.ref (ad 0)]) C0 hw (c_Mo_get8 (0 : Int32) x1 r2.2 r3 er3) mw_Mo_get8 ml_Mo_185 0 rfl ⟨Nat.le_of_ble_eq_true rfl, Nat.le_of_ble_eq_true rfl⟩ ⟨Nat.le_refl 0, Nat.le_refl 0⟩ rfl hl.1 rfl (Nat.le_of_ble_eq_true rfl) d_Mo_compareAndChange_15 (fun H locs hw => ?_)
  refine lv_lload_n hx hb d_Mo_compareAndChange_18 rfl (lv_at hl 0 rfl) ?_
  refine lv_iconst (v := (0 : Int32)) hx hb d_Mo_compareAndChange_19 (by decide) ?_
  refine lv_iconst (v := (1 : Int32)) hx hb d_Mo_compareAndChange_20 (by decide) ?_
  refine lv_iload_n hx hb d_Mo_compareAndChange_21 rfl (lv_at hl 2 rfl) ?_
  obtain ⟨r4, er4, h⟩ := ok_b h
  refine z_vl (rest := []) C0 hw (c_Mo_add r3 r2.1 (0 : Int32) (1 : Int32) x1 r2.2 r4 er4) mw_Mo_add ml_Mo_225 0 rfl ⟨Nat.le_of_ble_eq_true rfl, Nat.le_of_ble_eq_true rfl⟩ ⟨Nat.le_refl 0, Nat.le_refl 0⟩ rfl hl.1 rfl (Nat.le_of_ble_eq_true rfl) d_Mo_compareAndChange_22 (fun H locs hw => ?_)
  refine lv_pop2_2 hx hb d_Mo_compareAndChange_25 rfl ?_
  refine lv_aload_n hx hb d_Mo_compareAndChange_26 rfl (lv_at hl 1 rfl) ?_
  refine gfM_0_flag C0 hw fl_Mo_21 d_Mo_compareAndChange_27 ?_
  refine lv_iconst (v := (3 : Int32)) hx hb d_Mo_compareAndChange_30 (by decide) ?_
  obtain ⟨b5, h⟩ := ok_g h
  refine alM_4 C0 hw b5 d_Mo_compareAndChange_31 ?_
  refine lv_if_eq (tgt := 48) hx hb d_Mo_compareAndChange_32 (by decide) (fun c6 => ?_) (fun c6 => ?_)
  · have h := ok_t h c6
    refine lv_aload_n hx hb d_Mo_compareAndChange_48 rfl (lv_at hl 1 rfl) ?_
    refine lv_iload_n hx hb d_Mo_compareAndChange_49 rfl (lv_at hl 2 rfl) ?_
    refine lv_lload_n hx hb d_Mo_compareAndChange_50 rfl (lv_at hl 0 rfl) ?_
    obtain ⟨r7, er7, h⟩ := ok_b h
    refine z_vv (rest := []) C0 hw (c_Mo_setE x1 r2.1 r4.2 r7 er7) mw_Mo_setE ml_Mo_348 0 rfl ⟨Nat.le_of_ble_eq_true rfl, Nat.le_of_ble_eq_true rfl⟩ ⟨Nat.le_refl 0, Nat.le_refl 0⟩ rfl hl.1 rfl (Nat.le_of_ble_eq_true rfl) d_Mo_compareAndChange_51 (fun H locs hw => ?_)
    refine lv_aload_n hx hb d_Mo_compareAndChange_54 rfl (lv_at hl 1 rfl) ?_
    refine lv_iconst (v := (0 : Int32)) hx hb d_Mo_compareAndChange_55 (by decide) ?_
    refine lv_iload_n hx hb d_Mo_compareAndChange_56 rfl (lv_at hl 2 rfl) ?_
    refine lv_lload_n hx hb d_Mo_compareAndChange_57 rfl (lv_at hl 0 rfl) ?_
    obtain ⟨r8, er8, h⟩ := ok_b h
    refine z_vv (rest := []) C0 hw (c_Mo_put8 (0 : Int32) x1 r2.1 r7 r8 er8) mw_Mo_put8 ml_Mo_189 0 rfl ⟨Nat.le_of_ble_eq_true rfl, Nat.le_of_ble_eq_true rfl⟩ ⟨Nat.le_refl 0, Nat.le_refl 0⟩ rfl hl.1 rfl (Nat.le_of_ble_eq_true rfl) d_Mo_compareAndChange_58 (fun H locs hw => ?_)
    exact w_Mo_compareAndChange_61 o C0 r8 h H locs ls hw (lv_sub hl [] rfl)
  · have h := ok_f h c6
    refine lv_aload_n hx hb d_Mo_compareAndChange_35 rfl (lv_at hl 1 rfl) ?_
    refine lv_iload_n hx hb d_Mo_compareAndChange_36 rfl (lv_at hl 2 rfl) ?_
    refine lv_aload_n hx hb d_Mo_compareAndChange_37 rfl (lv_at hl 1 rfl) ?_
    refine lv_iload_n hx hb d_Mo_compareAndChange_38 rfl (lv_at hl 2 rfl) ?_
    obtain ⟨r9, er9, h⟩ := ok_b h
    refine z_vl (rest := [.int x1, .ref (ad 0)]) C0 hw (c_Mo_g x1 r4.2 r9 er9) mw_Mo_g ml_Mo_341 0 rfl ⟨Nat.le_of_ble_eq_true rfl, Nat.le_of_ble_eq_true rfl⟩ ⟨Nat.le_refl 0, Nat.le_refl 0⟩ rfl hl.1 rfl (Nat.le_of_ble_eq_true rfl) d_Mo_compareAndChange_39 (fun H locs hw => ?_)
    obtain ⟨r10, er10, h⟩ := ok_b h
    refine z_vv (rest := []) C0 hw (c_Mo_setE x1 r9 r4.2 r10 er10) mw_Mo_setE ml_Mo_348 0 rfl ⟨Nat.le_of_ble_eq_true rfl, Nat.le_of_ble_eq_true rfl⟩ ⟨Nat.le_refl 0, Nat.le_refl 0⟩ rfl hl.1 rfl (Nat.le_of_ble_eq_true rfl) d_Mo_compareAndChange_42 (fun H locs hw => ?_)
    refine lv_goto (tgt := 61) hx hb d_Mo_compareAndChange_45 (by decide) ?_
    exact w_Mo_compareAndChange_61 o C0 r10 h H locs ls hw (lv_sub hl [] rfl)
def k_Mo_scan_139 (q : z_Sg) : Option z_Sg :=
  some q
def k_Mo_scan_136 (t1 : Int32) (t2 : Int64) (q : z_Sg) : Option z_Sg :=
  (f_Mo_setG t1 t2 q).bind (fun r12 => k_Mo_scan_139 r12)
def k_Mo_scan_108 (x1 : Int32) (x4 : Int32) (x5 : Int32) (t1 : Int32) (t2 : Int32) (q : z_Sg) : Option z_Sg :=
  if z_bad t1 7 then none else (z_nm (z_sN q 1 t1.toNatClampNeg (vp_nar .boolean t2)) (fun q8 => if x4 = (-1 : Int32) then (k_Mo_scan_139 q8) else ((f_Mo_wide q8).bind (fun r10 => if x1 = (188 : Int32) then (k_Mo_scan_136 r10 (x4.toInt64) q8) else (k_Mo_scan_136 r10 (x5.toInt64) q8)))))
def k_Mo_scan_86 (ih67 : Int32 × Int32 × Int32 × Int32 × z_Sg → Option z_Sg) (x1 : Int32) (x4 : Int32) (x5 : Int32) (x6 : Int32) (q : z_Sg) : Option z_Sg :=
  z_nm (x6 + (1 : Int32)) (fun n14 => ih67 (x1, x4, x5, n14, q))
def kb_Mo_scan_67 (ih67 : Int32 × Int32 × Int32 × Int32 × z_Sg → Option z_Sg) (x1 : Int32) (x4 : Int32) (x5 : Int32) (x6 : Int32) (q : z_Sg) : Option z_Sg :=
  if (7 : Int32) ≤ x6 then (if x4 = (-1 : Int32) then (k_Mo_scan_108 x1 x4 x5 (3 : Int32) (1 : Int32) q) else (k_Mo_scan_108 x1 x4 x5 (3 : Int32) (0 : Int32) q)) else (if x6 = (5 : Int32) then (k_Mo_scan_86 ih67 x1 x4 x5 x6 q) else ((f_Mo_leave x6 q).bind (fun r15 => k_Mo_scan_86 ih67 x1 x4 x5 x6 r15)))
def k_Mo_scan_67 (x1 : Int32) (x4 : Int32) (x5 : Int32) (x6 : Int32) (q : z_Sg) : Option z_Sg := z_lo (fun ih67 a => kb_Mo_scan_67 ih67 a.1 a.2.1 a.2.2.1 a.2.2.2.1 a.2.2.2.2) 2000 (x1, x4, x5, x6, q)
def k_Mo_scan_58 (ih23 : Int32 × Int64 × Int32 × Int32 × Int32 × z_Sg → Option z_Sg) (x1 : Int32) (x2 : Int64) (x4 : Int32) (x5 : Int32) (x6 : Int32) (q : z_Sg) : Option z_Sg :=
  z_nm (x6 + (1 : Int32)) (fun n18 => ih23 (x1, x2, x4, x5, n18, q))
def kb_Mo_scan_23 (ih23 : Int32 × Int64 × Int32 × Int32 × Int32 × z_Sg → Option z_Sg) (x1 : Int32) (x2 : Int64) (x4 : Int32) (x5 : Int32) (x6 : Int32) (q : z_Sg) : Option z_Sg :=
  if (64 : Int32) ≤ x6 then (k_Mo_scan_67 x1 x4 x5 (0 : Int32) q) else (if ((z_lushr x2 x6) &&& (1 : Int64)) = (0 : Int64) then (k_Mo_scan_58 ih23 x1 x2 x4 x5 x6 q) else (if x4 = (-1 : Int32) then (k_Mo_scan_58 ih23 x1 x2 x6 x6 x6 q) else (k_Mo_scan_58 ih23 x1 x2 x4 x6 x6 q)))
def k_Mo_scan_23 (x1 : Int32) (x2 : Int64) (x4 : Int32) (x5 : Int32) (x6 : Int32) (q : z_Sg) : Option z_Sg := z_lo (fun ih23 a => kb_Mo_scan_23 ih23 a.1 a.2.1 a.2.2.1 a.2.2.2.1 a.2.2.2.2.1 a.2.2.2.2.2) 2000 (x1, x2, x4, x5, x6, q)
def f_Mo_scan (x1 : Int32) (q : z_Sg) : Option z_Sg :=
  (f_Mo_takeOperand q).bind (fun r1 => (f_Mo_wide r1).bind (fun r2 => (f_Mo_e r2 (0 : Int32) r1).bind (fun r3 => k_Mo_scan_23 x1 r3.1 (-1 : Int32) (-1 : Int32) (0 : Int32) r3.2)))
set_option maxHeartbeats 4000000 in
set_option maxRecDepth 100000 in
theorem w_Mo_scan_139 {p : Program} {l : Launch} {e : Env} {s : State} {m : MethodId} {args : Array Value} {below : List Frame} {meth : Method} {c : Code} {D : va_G} {A : Nat → Prop} {ad : Nat → Nat} {ca : Nat → ClassId} (o : z_Sg) (C0 : z_cx z_RMo b_Mo_scan 7 none D (z_Mt ca) A p s m args meth c) (q : z_Sg) (h : k_Mo_scan_139 q = some o) : ∀ (H : Heap) (locs : List Loc) (ls : Array Slot), z_wd D (z_M ad ca q) A s H locs → lv_has ls 7 [] → W p l e (z_rm 8 193) s m args below meth c H locs 0 0 (z_qv below D (z_Mt ca) (z_M ad ca o) A s args) (F0 m 139 ls []) := by
  obtain ⟨hx, hb, hr, hlk, hml, hown, hts, hK, hA⟩ := id C0
  intro H locs ls hw hl
  have ho := Option.some.inj h
  subst ho
  exact z_rtv C0 hw d_Mo_scan_139
set_option maxHeartbeats 4000000 in
set_option maxRecDepth 100000 in
theorem w_Mo_scan_136 {p : Program} {l : Launch} {e : Env} {s : State} {m : MethodId} {args : Array Value} {below : List Frame} {meth : Method} {c : Code} {D : va_G} {A : Nat → Prop} {ad : Nat → Nat} {ca : Nat → ClassId} (o : z_Sg) (C0 : z_cx z_RMo b_Mo_scan 7 none D (z_Mt ca) A p s m args meth c) (q : z_Sg) (t1 : Int32) (t2 : Int64) (h : k_Mo_scan_136 t1 t2 q = some o) : ∀ (H : Heap) (locs : List Loc) (ls : Array Slot), z_wd D (z_M ad ca q) A s H locs → lv_has ls 7 [] → W p l e (z_rm 8 193) s m args below meth c H locs 0 0 (z_qv below D (z_Mt ca) (z_M ad ca o) A s args) (F0 m 136 ls [.long t2, .int t1, .ref (ad 0)]) := by
  obtain ⟨hx, hb, hr, hlk, hml, hown, hts, hK, hA⟩ := id C0
  intro H locs ls hw hl
  obtain ⟨r12, er12, h⟩ := ok_b h
  refine z_vv (rest := []) C0 hw (c_Mo_setG t1 t2 q r12 er12) mw_Mo_setG ml_Mo_344 0 rfl ⟨Nat.le_of_ble_eq_true rfl, Nat.le_of_ble_eq_true rfl⟩ ⟨Nat.le_refl 0, Nat.le_refl 0⟩ rfl hl.1 rfl (Nat.le_of_ble_eq_true rfl) d_Mo_scan_136 (fun H locs hw => ?_)
  exact w_Mo_scan_139 o C0 r12 h H locs ls hw (lv_sub hl [] rfl)
set_option maxHeartbeats 4000000 in
set_option maxRecDepth 100000 in
theorem w_Mo_scan_108 {p : Program} {l : Launch} {e : Env} {s : State} {m : MethodId} {args : Array Value} {below : List Frame} {meth : Method} {c : Code} {D : va_G} {A : Nat → Prop} {ad : Nat → Nat} {ca : Nat → ClassId} (o : z_Sg) (C0 : z_cx z_RMo b_Mo_scan 7 none D (z_Mt ca) A p s m args meth c) (q : z_Sg) (x1 : Int32) (x4 : Int32) (x5 : Int32) (t1 : Int32) (t2 : Int32) (h : k_Mo_scan_108 x1 x4 x5 t1 t2 q = some o) : ∀ (H : Heap) (locs : List Loc) (ls : Array Slot), z_wd D (z_M ad ca q) A s H locs → lv_has ls 7 [(0, .ref (ad 0)), (1, .int x1), (4, .int x4), (5, .int x5)] → W p l e (z_rm 8 193) s m args below meth c H locs 0 0 (z_qv below D (z_Mt ca) (z_M ad ca o) A s args) (F0 m 108 ls [.int t2, .int t1, .ref (ad 4)]) := by
  obtain ⟨hx, hb, hr, hlk, hml, hown, hts, hK, hA⟩ := id C0
  intro H locs ls hw hl
  obtain ⟨b7, h⟩ := ok_g h
  refine asM_4 C0 hw b7 d_Mo_scan_108 (fun H locs hw => ?_)
  obtain ⟨q8, eq8, h⟩ := ok_n h
  rw [← eq8] at hw
  refine lv_iload hx hb d_Mo_scan_109 (lv_at hl 2 rfl) ?_
  refine lv_iconst (v := (-1 : Int32)) hx hb d_Mo_scan_111 (by decide) ?_
  refine lv_icmp_eq (tgt := 139) hx hb d_Mo_scan_112 (by decide) (fun c9 => ?_) (fun c9 => ?_)
  · have h := ok_t h c9
    exact w_Mo_scan_139 o C0 q8 h H locs ls hw (lv_sub hl [] rfl)
  · have h := ok_f h c9
    refine lv_aload_n hx hb d_Mo_scan_115 rfl (lv_at hl 0 rfl) ?_
    refine lv_aload_n hx hb d_Mo_scan_116 rfl (lv_at hl 0 rfl) ?_
    obtain ⟨r10, er10, h⟩ := ok_b h
    refine z_vi (rest := [.ref (ad 0)]) C0 hw (c_Mo_wide q8 r10 er10) mw_Mo_wide ml_Mo_235 0 rfl ⟨Nat.le_of_ble_eq_true rfl, Nat.le_of_ble_eq_true rfl⟩ ⟨Nat.le_refl 0, Nat.le_refl 0⟩ rfl hl.1 rfl (Nat.le_of_ble_eq_true rfl) d_Mo_scan_117 (fun H locs hw => ?_)
    refine lv_iload_n hx hb d_Mo_scan_120 rfl (lv_at hl 1 rfl) ?_
    refine lv_sipush (v := (188 : Int32)) hx hb d_Mo_scan_121 (by decide) ?_
    refine lv_icmp_ne (tgt := 133) hx hb d_Mo_scan_124 (by decide) (fun c11 => ?_) (fun c11 => ?_)
    · have h := ok_f h c11
      refine lv_iload hx hb d_Mo_scan_133 (lv_at hl 3 rfl) ?_
      refine lv_i2l hx hb d_Mo_scan_135 rfl ?_
      exact w_Mo_scan_136 o C0 q8 r10 (x5.toInt64) h H locs ls hw (lv_sub hl [] rfl)
    · have h := ok_t h c11
      refine lv_iload hx hb d_Mo_scan_127 (lv_at hl 2 rfl) ?_
      refine lv_i2l hx hb d_Mo_scan_129 rfl ?_
      refine lv_goto (tgt := 136) hx hb d_Mo_scan_130 (by decide) ?_
      exact w_Mo_scan_136 o C0 q8 r10 (x4.toInt64) h H locs ls hw (lv_sub hl [] rfl)
set_option maxHeartbeats 4000000 in
set_option maxRecDepth 100000 in
theorem w_Mo_scan_86 {p : Program} {l : Launch} {e : Env} {s : State} {m : MethodId} {args : Array Value} {below : List Frame} {meth : Method} {c : Code} {D : va_G} {A : Nat → Prop} {ad : Nat → Nat} {ca : Nat → ClassId} (o : z_Sg) (C0 : z_cx z_RMo b_Mo_scan 7 none D (z_Mt ca) A p s m args meth c) (q : z_Sg) (ih67 : Int32 × Int32 × Int32 × Int32 × z_Sg → Option z_Sg) (hi67 : ∀ a : Int32 × Int32 × Int32 × Int32 × z_Sg, ih67 a = some o → ∀ (H : Heap) (locs : List Loc) (ls : Array Slot), z_wd D (z_M ad ca a.2.2.2.2) A s H locs → lv_has ls 7 [(0, .ref (ad 0)), (1, .int a.1), (4, .int a.2.1), (5, .int a.2.2.1), (6, .int a.2.2.2.1)] → W p l e (z_rm 8 193) s m args below meth c H locs 0 0 (z_qv below D (z_Mt ca) (z_M ad ca o) A s args) (F0 m 67 ls [])) (x1 : Int32) (x4 : Int32) (x5 : Int32) (x6 : Int32) (h : k_Mo_scan_86 ih67 x1 x4 x5 x6 q = some o) : ∀ (H : Heap) (locs : List Loc) (ls : Array Slot), z_wd D (z_M ad ca q) A s H locs → lv_has ls 7 [(0, .ref (ad 0)), (1, .int x1), (4, .int x4), (5, .int x5), (6, .int x6)] → W p l e (z_rm 8 193) s m args below meth c H locs 0 0 (z_qv below D (z_Mt ca) (z_M ad ca o) A s args) (F0 m 86 ls []) := by
  obtain ⟨hx, hb, hr, hlk, hml, hown, hts, hK, hA⟩ := id C0
  intro H locs ls hw hl
  obtain ⟨n14, en14, h⟩ := ok_n h
  refine lv_iinc (v := n14) (lv' := [(6, .int n14), (0, .ref (ad 0)), (1, .int x1), (4, .int x4), (5, .int x5)]) hx hb d_Mo_scan_86 hl (k := 4) rfl (by rw [en14]; rfl) (by decide) rfl (fun ls hl => ?_)
  refine lv_goto (tgt := 67) hx hb d_Mo_scan_89 (by decide) ?_
  exact hi67 (x1, x4, x5, n14, q) h H locs ls hw (lv_sub hl [1, 2, 3, 4, 0] rfl)
set_option maxHeartbeats 4000000 in
set_option maxRecDepth 100000 in
theorem wb_Mo_scan_67 {p : Program} {l : Launch} {e : Env} {s : State} {m : MethodId} {args : Array Value} {below : List Frame} {meth : Method} {c : Code} {D : va_G} {A : Nat → Prop} {ad : Nat → Nat} {ca : Nat → ClassId} (o : z_Sg) (C0 : z_cx z_RMo b_Mo_scan 7 none D (z_Mt ca) A p s m args meth c) (q : z_Sg) (ih67 : Int32 × Int32 × Int32 × Int32 × z_Sg → Option z_Sg) (hi67 : ∀ a : Int32 × Int32 × Int32 × Int32 × z_Sg, ih67 a = some o → ∀ (H : Heap) (locs : List Loc) (ls : Array Slot), z_wd D (z_M ad ca a.2.2.2.2) A s H locs → lv_has ls 7 [(0, .ref (ad 0)), (1, .int a.1), (4, .int a.2.1), (5, .int a.2.2.1), (6, .int a.2.2.2.1)] → W p l e (z_rm 8 193) s m args below meth c H locs 0 0 (z_qv below D (z_Mt ca) (z_M ad ca o) A s args) (F0 m 67 ls [])) (x1 : Int32) (x4 : Int32) (x5 : Int32) (x6 : Int32) (h : kb_Mo_scan_67 ih67 x1 x4 x5 x6 q = some o) : ∀ (H : Heap) (locs : List Loc) (ls : Array Slot), z_wd D (z_M ad ca q) A s H locs → lv_has ls 7 [(0, .ref (ad 0)), (1, .int x1), (4, .int x4), (5, .int x5), (6, .int x6)] → W p l e (z_rm 8 193) s m args below meth c H locs 0 0 (z_qv below D (z_Mt ca) (z_M ad ca o) A s args) (F0 m 67 ls []) := by
  obtain ⟨hx, hb, hr, hlk, hml, hown, hts, hK, hA⟩ := id C0
  intro H locs ls hw hl
  refine lv_iload hx hb d_Mo_scan_67 (lv_at hl 4 rfl) ?_
  refine lv_bipush (v := (7 : Int32)) hx hb d_Mo_scan_69 (by decide) ?_
  refine lv_icmp_ge (tgt := 92) hx hb d_Mo_scan_71 (by decide) (fun c5 => ?_) (fun c5 => ?_)
  · have h := ok_t h c5
    refine lv_aload_n hx hb d_Mo_scan_92 rfl (lv_at hl 0 rfl) ?_
    refine gfM_0_flag C0 hw fl_Mo_21 d_Mo_scan_93 ?_
    refine lv_iconst (v := (3 : Int32)) hx hb d_Mo_scan_96 (by decide) ?_
    refine lv_iload hx hb d_Mo_scan_97 (lv_at hl 2 rfl) ?_
    refine lv_iconst (v := (-1 : Int32)) hx hb d_Mo_scan_99 (by decide) ?_
    refine lv_icmp_ne (tgt := 107) hx hb d_Mo_scan_100 (by decide) (fun c6 => ?_) (fun c6 => ?_)
    · have h := ok_f h c6
      refine lv_iconst (v := (0 : Int32)) hx hb d_Mo_scan_107 (by decide) ?_
      exact w_Mo_scan_108 o C0 q x1 x4 x5 (3 : Int32) (0 : Int32) h H locs ls hw (lv_sub hl [0, 1, 2, 3] rfl)
    · have h := ok_t h c6
      refine lv_iconst (v := (1 : Int32)) hx hb d_Mo_scan_103 (by decide) ?_
      refine lv_goto (tgt := 108) hx hb d_Mo_scan_104 (by decide) ?_
      exact w_Mo_scan_108 o C0 q x1 x4 x5 (3 : Int32) (1 : Int32) h H locs ls hw (lv_sub hl [0, 1, 2, 3] rfl)
  · have h := ok_f h c5
    refine lv_iload hx hb d_Mo_scan_74 (lv_at hl 4 rfl) ?_
    refine lv_iconst (v := (5 : Int32)) hx hb d_Mo_scan_76 (by decide) ?_
    refine lv_icmp_eq (tgt := 86) hx hb d_Mo_scan_77 (by decide) (fun c13 => ?_) (fun c13 => ?_)
    · have h := ok_t h c13
      exact w_Mo_scan_86 o C0 q ih67 hi67 x1 x4 x5 x6 h H locs ls hw (lv_sub hl [0, 1, 2, 3, 4] rfl)
    · have h := ok_f h c13
      refine lv_aload_n hx hb d_Mo_scan_80 rfl (lv_at hl 0 rfl) ?_
      refine lv_iload hx hb d_Mo_scan_81 (lv_at hl 4 rfl) ?_
      obtain ⟨r15, er15, h⟩ := ok_b h
      refine z_vv (rest := []) C0 hw (c_Mo_leave x6 q r15 er15) mw_Mo_leave ml_Mo_219 0 rfl ⟨Nat.le_of_ble_eq_true rfl, Nat.le_of_ble_eq_true rfl⟩ ⟨Nat.le_refl 0, Nat.le_refl 0⟩ rfl hl.1 rfl (Nat.le_of_ble_eq_true rfl) d_Mo_scan_83 (fun H locs hw => ?_)
      exact w_Mo_scan_86 o C0 r15 ih67 hi67 x1 x4 x5 x6 h H locs ls hw (lv_sub hl [0, 1, 2, 3, 4] rfl)
theorem w_Mo_scan_67 {p : Program} {l : Launch} {e : Env} {s : State} {m : MethodId} {args : Array Value} {below : List Frame} {meth : Method} {c : Code} {D : va_G} {A : Nat → Prop} {ad : Nat → Nat} {ca : Nat → ClassId} (o : z_Sg) (C0 : z_cx z_RMo b_Mo_scan 7 none D (z_Mt ca) A p s m args meth c) (q : z_Sg) (x1 : Int32) (x4 : Int32) (x5 : Int32) (x6 : Int32) (h : k_Mo_scan_67 x1 x4 x5 x6 q = some o) : ∀ (H : Heap) (locs : List Loc) (ls : Array Slot), z_wd D (z_M ad ca q) A s H locs → lv_has ls 7 [(0, .ref (ad 0)), (1, .int x1), (4, .int x4), (5, .int x5), (6, .int x6)] → W p l e (z_rm 8 193) s m args below meth c H locs 0 0 (z_qv below D (z_Mt ca) (z_M ad ca o) A s args) (F0 m 67 ls []) := by
  have key : ∀ (n : Nat) (a : Int32 × Int32 × Int32 × Int32 × z_Sg), z_lo (fun ih67 a => kb_Mo_scan_67 ih67 a.1 a.2.1 a.2.2.1 a.2.2.2.1 a.2.2.2.2) n a = some o → ∀ (H : Heap) (locs : List Loc) (ls : Array Slot), z_wd D (z_M ad ca a.2.2.2.2) A s H locs → lv_has ls 7 [(0, .ref (ad 0)), (1, .int a.1), (4, .int a.2.1), (5, .int a.2.2.1), (6, .int a.2.2.2.1)] → W p l e (z_rm 8 193) s m args below meth c H locs 0 0 (z_qv below D (z_Mt ca) (z_M ad ca o) A s args) (F0 m 67 ls []) := by
    intro n
    induction n with
    | zero => intro a h; cases h
    | succ n ih => exact fun a h => wb_Mo_scan_67 o C0 a.2.2.2.2 (z_lo (fun ih67 a => kb_Mo_scan_67 ih67 a.1 a.2.1 a.2.2.1 a.2.2.2.1 a.2.2.2.2) n) ih a.1 a.2.1 a.2.2.1 a.2.2.2.1 h
  exact key 2000 (x1, x4, x5, x6, q) h
set_option maxHeartbeats 4000000 in
set_option maxRecDepth 100000 in
theorem w_Mo_scan_58 {p : Program} {l : Launch} {e : Env} {s : State} {m : MethodId} {args : Array Value} {below : List Frame} {meth : Method} {c : Code} {D : va_G} {A : Nat → Prop} {ad : Nat → Nat} {ca : Nat → ClassId} (o : z_Sg) (C0 : z_cx z_RMo b_Mo_scan 7 none D (z_Mt ca) A p s m args meth c) (q : z_Sg) (ih23 : Int32 × Int64 × Int32 × Int32 × Int32 × z_Sg → Option z_Sg) (hi23 : ∀ a : Int32 × Int64 × Int32 × Int32 × Int32 × z_Sg, ih23 a = some o → ∀ (H : Heap) (locs : List Loc) (ls : Array Slot), z_wd D (z_M ad ca a.2.2.2.2.2) A s H locs → lv_has ls 7 [(0, .ref (ad 0)), (1, .int a.1), (2, .long a.2.1), (4, .int a.2.2.1), (5, .int a.2.2.2.1), (6, .int a.2.2.2.2.1)] → W p l e (z_rm 8 193) s m args below meth c H locs 0 0 (z_qv below D (z_Mt ca) (z_M ad ca o) A s args) (F0 m 23 ls [])) (x1 : Int32) (x2 : Int64) (x4 : Int32) (x5 : Int32) (x6 : Int32) (h : k_Mo_scan_58 ih23 x1 x2 x4 x5 x6 q = some o) : ∀ (H : Heap) (locs : List Loc) (ls : Array Slot), z_wd D (z_M ad ca q) A s H locs → lv_has ls 7 [(0, .ref (ad 0)), (1, .int x1), (2, .long x2), (4, .int x4), (5, .int x5), (6, .int x6)] → W p l e (z_rm 8 193) s m args below meth c H locs 0 0 (z_qv below D (z_Mt ca) (z_M ad ca o) A s args) (F0 m 58 ls []) := by
  obtain ⟨hx, hb, hr, hlk, hml, hown, hts, hK, hA⟩ := id C0
  intro H locs ls hw hl
  obtain ⟨n18, en18, h⟩ := ok_n h
  refine lv_iinc (v := n18) (lv' := [(6, .int n18), (0, .ref (ad 0)), (1, .int x1), (2, .long x2), (4, .int x4), (5, .int x5)]) hx hb d_Mo_scan_58 hl (k := 5) rfl (by rw [en18]; rfl) (by decide) rfl (fun ls hl => ?_)
  refine lv_goto (tgt := 23) hx hb d_Mo_scan_61 (by decide) ?_
  exact hi23 (x1, x2, x4, x5, n18, q) h H locs ls hw (lv_sub hl [1, 2, 3, 4, 5, 0] rfl)
set_option maxHeartbeats 4000000 in
set_option maxRecDepth 100000 in
theorem wb_Mo_scan_23 {p : Program} {l : Launch} {e : Env} {s : State} {m : MethodId} {args : Array Value} {below : List Frame} {meth : Method} {c : Code} {D : va_G} {A : Nat → Prop} {ad : Nat → Nat} {ca : Nat → ClassId} (o : z_Sg) (C0 : z_cx z_RMo b_Mo_scan 7 none D (z_Mt ca) A p s m args meth c) (q : z_Sg) (ih23 : Int32 × Int64 × Int32 × Int32 × Int32 × z_Sg → Option z_Sg) (hi23 : ∀ a : Int32 × Int64 × Int32 × Int32 × Int32 × z_Sg, ih23 a = some o → ∀ (H : Heap) (locs : List Loc) (ls : Array Slot), z_wd D (z_M ad ca a.2.2.2.2.2) A s H locs → lv_has ls 7 [(0, .ref (ad 0)), (1, .int a.1), (2, .long a.2.1), (4, .int a.2.2.1), (5, .int a.2.2.2.1), (6, .int a.2.2.2.2.1)] → W p l e (z_rm 8 193) s m args below meth c H locs 0 0 (z_qv below D (z_Mt ca) (z_M ad ca o) A s args) (F0 m 23 ls [])) (x1 : Int32) (x2 : Int64) (x4 : Int32) (x5 : Int32) (x6 : Int32) (h : kb_Mo_scan_23 ih23 x1 x2 x4 x5 x6 q = some o) : ∀ (H : Heap) (locs : List Loc) (ls : Array Slot), z_wd D (z_M ad ca q) A s H locs → lv_has ls 7 [(0, .ref (ad 0)), (1, .int x1), (2, .long x2), (4, .int x4), (5, .int x5), (6, .int x6)] → W p l e (z_rm 8 193) s m args below meth c H locs 0 0 (z_qv below D (z_Mt ca) (z_M ad ca o) A s args) (F0 m 23 ls []) := by
  obtain ⟨hx, hb, hr, hlk, hml, hown, hts, hK, hA⟩ := id C0
  intro H locs ls hw hl
  refine lv_iload hx hb d_Mo_scan_23 (lv_at hl 5 rfl) ?_
  refine lv_bipush (v := (64 : Int32)) hx hb d_Mo_scan_25 (by decide) ?_
  refine lv_icmp_ge (tgt := 64) hx hb d_Mo_scan_27 (by decide) (fun c4 => ?_) (fun c4 => ?_)
  · have h := ok_t h c4
    refine lv_iconst (v := (0 : Int32)) hx hb d_Mo_scan_64 (by decide) ?_
    refine lv_istore (lv' := [(6, .int (0 : Int32)), (0, .ref (ad 0)), (1, .int x1), (2, .long x2), (4, .int x4), (5, .int x5)]) hx hb d_Mo_scan_65 hl (by decide) rfl (fun ls hl => ?_)
    exact w_Mo_scan_67 o C0 q x1 x4 x5 (0 : Int32) h H locs ls hw (lv_sub hl [1, 2, 4, 5, 0] rfl)
  · have h := ok_f h c4
    refine lv_lload_n hx hb d_Mo_scan_30 rfl (lv_at hl 2 rfl) ?_
    refine lv_iload hx hb d_Mo_scan_31 (lv_at hl 5 rfl) ?_
    refine lv_lushr (v := (z_lushr x2 x6)) hx hb d_Mo_scan_33 rfl ?_
    refine lv_lconst (v := (1 : Int64)) hx hb d_Mo_scan_34 (by decide) ?_
    refine lv_land hx hb d_Mo_scan_35 ?_
    refine lv_lconst (v := (0 : Int64)) hx hb d_Mo_scan_36 (by decide) ?_
    refine W.lcmp hx hb d_Mo_scan_37 ?_
    refine lv_if_ne (tgt := 44) hx hb d_Mo_scan_38 (by decide) (fun c16 => ?_) (fun c16 => ?_)
    · have h := ok_f h (fun z => c16 ((lg_cmp_eq _ _).mpr z))
      refine lv_iload hx hb d_Mo_scan_44 (lv_at hl 5 rfl) ?_
      refine lv_istore (lv' := [(5, .int x6), (0, .ref (ad 0)), (1, .int x1), (2, .long x2), (4, .int x4), (6, .int x6)]) hx hb d_Mo_scan_46 hl (by decide) rfl (fun ls hl => ?_)
      refine lv_iload hx hb d_Mo_scan_48 (lv_at hl 4 rfl) ?_
      refine lv_iconst (v := (-1 : Int32)) hx hb d_Mo_scan_50 (by decide) ?_
      refine lv_icmp_ne (tgt := 58) hx hb d_Mo_scan_51 (by decide) (fun c17 => ?_) (fun c17 => ?_)
      · have h := ok_f h c17
        exact w_Mo_scan_58 o C0 q ih23 hi23 x1 x2 x4 x6 x6 h H locs ls hw (lv_sub hl [1, 2, 3, 4, 0, 5] rfl)
      · have h := ok_t h c17
        refine lv_iload hx hb d_Mo_scan_54 (lv_at hl 5 rfl) ?_
        refine lv_istore (lv' := [(4, .int x6), (5, .int x6), (0, .ref (ad 0)), (1, .int x1), (2, .long x2), (6, .int x6)]) hx hb d_Mo_scan_56 hl (by decide) rfl (fun ls hl => ?_)
        exact w_Mo_scan_58 o C0 q ih23 hi23 x1 x2 x6 x6 x6 h H locs ls hw (lv_sub hl [2, 3, 4, 0, 1, 5] rfl)
    · have h := ok_t h ((lg_cmp_eq _ _).mp c16)
      refine lv_goto (tgt := 58) hx hb d_Mo_scan_41 (by decide) ?_
      exact w_Mo_scan_58 o C0 q ih23 hi23 x1 x2 x4 x5 x6 h H locs ls hw (lv_sub hl [0, 1, 2, 3, 4, 5] rfl)
theorem w_Mo_scan_23 {p : Program} {l : Launch} {e : Env} {s : State} {m : MethodId} {args : Array Value} {below : List Frame} {meth : Method} {c : Code} {D : va_G} {A : Nat → Prop} {ad : Nat → Nat} {ca : Nat → ClassId} (o : z_Sg) (C0 : z_cx z_RMo b_Mo_scan 7 none D (z_Mt ca) A p s m args meth c) (q : z_Sg) (x1 : Int32) (x2 : Int64) (x4 : Int32) (x5 : Int32) (x6 : Int32) (h : k_Mo_scan_23 x1 x2 x4 x5 x6 q = some o) : ∀ (H : Heap) (locs : List Loc) (ls : Array Slot), z_wd D (z_M ad ca q) A s H locs → lv_has ls 7 [(0, .ref (ad 0)), (1, .int x1), (2, .long x2), (4, .int x4), (5, .int x5), (6, .int x6)] → W p l e (z_rm 8 193) s m args below meth c H locs 0 0 (z_qv below D (z_Mt ca) (z_M ad ca o) A s args) (F0 m 23 ls []) := by
  have key : ∀ (n : Nat) (a : Int32 × Int64 × Int32 × Int32 × Int32 × z_Sg), z_lo (fun ih23 a => kb_Mo_scan_23 ih23 a.1 a.2.1 a.2.2.1 a.2.2.2.1 a.2.2.2.2.1 a.2.2.2.2.2) n a = some o → ∀ (H : Heap) (locs : List Loc) (ls : Array Slot), z_wd D (z_M ad ca a.2.2.2.2.2) A s H locs → lv_has ls 7 [(0, .ref (ad 0)), (1, .int a.1), (2, .long a.2.1), (4, .int a.2.2.1), (5, .int a.2.2.2.1), (6, .int a.2.2.2.2.1)] → W p l e (z_rm 8 193) s m args below meth c H locs 0 0 (z_qv below D (z_Mt ca) (z_M ad ca o) A s args) (F0 m 23 ls []) := by
    intro n
    induction n with
    | zero => intro a h; cases h
    | succ n ih => exact fun a h => wb_Mo_scan_23 o C0 a.2.2.2.2.2 (z_lo (fun ih23 a => kb_Mo_scan_23 ih23 a.1 a.2.1 a.2.2.1 a.2.2.2.1 a.2.2.2.2.1 a.2.2.2.2.2) n) ih a.1 a.2.1 a.2.2.1 a.2.2.2.1 a.2.2.2.2.1 h
  exact key 2000 (x1, x2, x4, x5, x6, q) h
set_option maxHeartbeats 4000000 in
set_option maxRecDepth 100000 in
theorem c_Mo_scan {l : Launch} {D : va_G} {ad : Nat → Nat} {ca : Nat → ClassId} (x1 : Int32) (q : z_Sg) (o : z_Sg) (h : f_Mo_scan x1 q = some o) : z_cv l y_Mo_scan b_Mo_scan 7 none 8 193 D (z_Mt ca) (z_M ad ca q) (z_M ad ca o) [.ref (ad 0), .int x1] := by
  refine z_cv_of (own := z_RMo) (by decide) rfl ?_
  intro p e s m below meth c A C0 hw
  obtain ⟨hx, hb, hr, hlk, hml, hown, hts, hK, hA⟩ := id C0
  generalize hH : s.heap = H at hw ⊢
  generalize hlo : ([] : List Loc) = locs at hw ⊢
  refine z_entry (lv := [(0, .ref (ad 0)), (1, .int x1)]) (Nat.le_of_ble_eq_true rfl) rfl (fun ls hl => ?_)
  unfold f_Mo_scan at h
  refine lv_aload_n hx hb d_Mo_scan_0 rfl (lv_at hl 0 rfl) ?_
  obtain ⟨r1, er1, h⟩ := ok_b h
  refine z_vv (rest := []) C0 hw (c_Mo_takeOperand q r1 er1) mw_Mo_takeOperand ml_Mo_335 0 rfl ⟨Nat.le_of_ble_eq_true rfl, Nat.le_of_ble_eq_true rfl⟩ ⟨Nat.le_refl 0, Nat.le_refl 0⟩ rfl hl.1 rfl (Nat.le_of_ble_eq_true rfl) d_Mo_scan_1 (fun H locs hw => ?_)
  refine lv_aload_n hx hb d_Mo_scan_4 rfl (lv_at hl 0 rfl) ?_
  refine lv_aload_n hx hb d_Mo_scan_5 rfl (lv_at hl 0 rfl) ?_
  obtain ⟨r2, er2, h⟩ := ok_b h
  refine z_vi (rest := [.ref (ad 0)]) C0 hw (c_Mo_wide r1 r2 er2) mw_Mo_wide ml_Mo_235 0 rfl ⟨Nat.le_of_ble_eq_true rfl, Nat.le_of_ble_eq_true rfl⟩ ⟨Nat.le_refl 0, Nat.le_refl 0⟩ rfl hl.1 rfl (Nat.le_of_ble_eq_true rfl) d_Mo_scan_6 (fun H locs hw => ?_)
  refine lv_iconst (v := (0 : Int32)) hx hb d_Mo_scan_9 (by decide) ?_
  obtain ⟨r3, er3, h⟩ := ok_b h
  refine z_vl (rest := []) C0 hw (c_Mo_e r2 (0 : Int32) r1 r3 er3) mw_Mo_e ml_Mo_338 0 rfl ⟨Nat.le_of_ble_eq_true rfl, Nat.le_of_ble_eq_true rfl⟩ ⟨Nat.le_refl 0, Nat.le_refl 0⟩ rfl hl.1 rfl (Nat.le_of_ble_eq_true rfl) d_Mo_scan_10 (fun H locs hw => ?_)
  refine lv_lstore_n (lv' := [(2, .long r3.1), (0, .ref (ad 0)), (1, .int x1)]) hx hb d_Mo_scan_13 rfl hl (by decide) rfl (fun ls hl => ?_)
  refine lv_iconst (v := (-1 : Int32)) hx hb d_Mo_scan_14 (by decide) ?_
  refine lv_istore (lv' := [(4, .int (-1 : Int32)), (2, .long r3.1), (0, .ref (ad 0)), (1, .int x1)]) hx hb d_Mo_scan_15 hl (by decide) rfl (fun ls hl => ?_)
  refine lv_iconst (v := (-1 : Int32)) hx hb d_Mo_scan_17 (by decide) ?_
  refine lv_istore (lv' := [(5, .int (-1 : Int32)), (4, .int (-1 : Int32)), (2, .long r3.1), (0, .ref (ad 0)), (1, .int x1)]) hx hb d_Mo_scan_18 hl (by decide) rfl (fun ls hl => ?_)
  refine lv_iconst (v := (0 : Int32)) hx hb d_Mo_scan_20 (by decide) ?_
  refine lv_istore (lv' := [(6, .int (0 : Int32)), (5, .int (-1 : Int32)), (4, .int (-1 : Int32)), (2, .long r3.1), (0, .ref (ad 0)), (1, .int x1)]) hx hb d_Mo_scan_21 hl (by decide) rfl (fun ls hl => ?_)
  exact w_Mo_scan_23 o C0 r3.2 x1 r3.1 (-1 : Int32) (-1 : Int32) (0 : Int32) h H locs ls hw (lv_sub hl [4, 5, 3, 2, 1, 0] rfl)
def f_Mo_addAndChange (x1 : Int32) (q : z_Sg) : Option z_Sg :=
  (f_Mo_takeOperand q).bind (fun r1 => (f_Mo_e x1 (1 : Int32) r1).bind (fun r2 => (f_Mo_g x1 r2.2).bind (fun r3 => (f_Mo_add r2.1 r3 (0 : Int32) (0 : Int32) x1 r2.2).bind (fun r4 => (f_Mo_setG x1 r2.1 r4.2).bind (fun r5 => (f_Mo_setE x1 r4.1 r5).bind (fun r6 => some r6))))))
set_option maxHeartbeats 4000000 in
set_option maxRecDepth 100000 in
theorem c_Mo_addAndChange {l : Launch} {D : va_G} {ad : Nat → Nat} {ca : Nat → ClassId} (x1 : Int32) (q : z_Sg) (o : z_Sg) (h : f_Mo_addAndChange x1 q = some o) : z_cv l y_Mo_addAndChange b_Mo_addAndChange 6 none 8 193 D (z_Mt ca) (z_M ad ca q) (z_M ad ca o) [.ref (ad 0), .int x1] := by
  refine z_cv_of (own := z_RMo) (by decide) rfl ?_
  intro p e s m below meth c A C0 hw
  obtain ⟨hx, hb, hr, hlk, hml, hown, hts, hK, hA⟩ := id C0
  generalize hH : s.heap = H at hw ⊢
  generalize hlo : ([] : List Loc) = locs at hw ⊢
  refine z_entry (lv := [(0, .ref (ad 0)), (1, .int x1)]) (Nat.le_of_ble_eq_true rfl) rfl (fun ls hl => ?_)
  unfold f_Mo_addAndChange at h
  refine lv_aload_n hx hb d_Mo_addAndChange_0 rfl (lv_at hl 0 rfl) ?_
  obtain ⟨r1, er1, h⟩ := ok_b h
  refine z_vv (rest := []) C0 hw (c_Mo_takeOperand q r1 er1) mw_Mo_takeOperand ml_Mo_335 0 rfl ⟨Nat.le_of_ble_eq_true rfl, Nat.le_of_ble_eq_true rfl⟩ ⟨Nat.le_refl 0, Nat.le_refl 0⟩ rfl hl.1 rfl (Nat.le_of_ble_eq_true rfl) d_Mo_addAndChange_1 (fun H locs hw => ?_)
  refine lv_aload_n hx hb d_Mo_addAndChange_4 rfl (lv_at hl 0 rfl) ?_
  refine lv_iload_n hx hb d_Mo_addAndChange_5 rfl (lv_at hl 1 rfl) ?_
  refine lv_iconst (v := (1 : Int32)) hx hb d_Mo_addAndChange_6 (by decide) ?_
  obtain ⟨r2, er2, h⟩ := ok_b h
  refine z_vl (rest := []) C0 hw (c_Mo_e x1 (1 : Int32) r1 r2 er2) mw_Mo_e ml_Mo_338 0 rfl ⟨Nat.le_of_ble_eq_true rfl, Nat.le_of_ble_eq_true rfl⟩ ⟨Nat.le_refl 0, Nat.le_refl 0⟩ rfl hl.1 rfl (Nat.le_of_ble_eq_true rfl) d_Mo_addAndChange_7 (fun H locs hw => ?_)
  refine lv_lstore_n (lv' := [(2, .long r2.1), (0, .ref (ad 0)), (1, .int x1)]) hx hb d_Mo_addAndChange_10 rfl hl (by decide) rfl (fun ls hl => ?_)
  refine lv_aload_n hx hb d_Mo_addAndChange_11 rfl (lv_at hl 1 rfl) ?_
  refine lv_lload_n hx hb d_Mo_addAndChange_12 rfl (lv_at hl 0 rfl) ?_
  refine lv_aload_n hx hb d_Mo_addAndChange_13 rfl (lv_at hl 1 rfl) ?_
  refine lv_iload_n hx hb d_Mo_addAndChange_14 rfl (lv_at hl 2 rfl) ?_
  obtain ⟨r3, er3, h⟩ := ok_b h
  refine z_vl (rest := [.long r2.1, .ref (ad 0)]) C0 hw (c_Mo_g x1 r2.2 r3 er3) mw_Mo_g ml_Mo_341 0 rfl ⟨Nat.le_of_ble_eq_true rfl, Nat.le_of_ble_eq_true rfl⟩ ⟨Nat.le_refl 0, Nat.le_refl 0⟩ rfl hl.1 rfl (Nat.le_of_ble_eq_true rfl) d_Mo_addAndChange_15 (fun H locs hw => ?_)
  refine lv_iconst (v := (0 : Int32)) hx hb d_Mo_addAndChange_18 (by decide) ?_
  refine lv_iconst (v := (0 : Int32)) hx hb d_Mo_addAndChange_19 (by decide) ?_
  refine lv_iload_n hx hb d_Mo_addAndChange_20 rfl (lv_at hl 2 rfl) ?_
  obtain ⟨r4, er4, h⟩ := ok_b h
  refine z_vl (rest := []) C0 hw (c_Mo_add r2.1 r3 (0 : Int32) (0 : Int32) x1 r2.2 r4 er4) mw_Mo_add ml_Mo_225 0 rfl ⟨Nat.le_of_ble_eq_true rfl, Nat.le_of_ble_eq_true rfl⟩ ⟨Nat.le_refl 0, Nat.le_refl 0⟩ rfl hl.1 rfl (Nat.le_of_ble_eq_true rfl) d_Mo_addAndChange_21 (fun H locs hw => ?_)
  refine lv_lstore (lv' := [(4, .long r4.1), (2, .long r2.1), (0, .ref (ad 0)), (1, .int x1)]) hx hb d_Mo_addAndChange_24 hl (by decide) rfl (fun ls hl => ?_)
  refine lv_aload_n hx hb d_Mo_addAndChange_26 rfl (lv_at hl 2 rfl) ?_
  refine lv_iload_n hx hb d_Mo_addAndChange_27 rfl (lv_at hl 3 rfl) ?_
  refine lv_lload_n hx hb d_Mo_addAndChange_28 rfl (lv_at hl 1 rfl) ?_
  obtain ⟨r5, er5, h⟩ := ok_b h
  refine z_vv (rest := []) C0 hw (c_Mo_setG x1 r2.1 r4.2 r5 er5) mw_Mo_setG ml_Mo_344 0 rfl ⟨Nat.le_of_ble_eq_true rfl, Nat.le_of_ble_eq_true rfl⟩ ⟨Nat.le_refl 0, Nat.le_refl 0⟩ rfl hl.1 rfl (Nat.le_of_ble_eq_true rfl) d_Mo_addAndChange_29 (fun H locs hw => ?_)
  refine lv_aload_n hx hb d_Mo_addAndChange_32 rfl (lv_at hl 2 rfl) ?_
  refine lv_iload_n hx hb d_Mo_addAndChange_33 rfl (lv_at hl 3 rfl) ?_
  refine lv_lload hx hb d_Mo_addAndChange_34 (lv_at hl 0 rfl) ?_
  obtain ⟨r6, er6, h⟩ := ok_b h
  refine z_vv (rest := []) C0 hw (c_Mo_setE x1 r4.1 r5 r6 er6) mw_Mo_setE ml_Mo_348 0 rfl ⟨Nat.le_of_ble_eq_true rfl, Nat.le_of_ble_eq_true rfl⟩ ⟨Nat.le_refl 0, Nat.le_refl 0⟩ rfl hl.1 rfl (Nat.le_of_ble_eq_true rfl) d_Mo_addAndChange_36 (fun H locs hw => ?_)
  have ho := Option.some.inj h
  subst ho
  exact z_rtv C0 hw d_Mo_addAndChange_39
def kb_Mo_turnRound_22 (ih22 : Int32 × Int32 × Int64 × Int32 × z_Sg → Option z_Sg) (x1 : Int32) (x2 : Int32) (x3 : Int64) (x5 : Int32) (q : z_Sg) : Option z_Sg :=
  if x2 ≤ x5 then ((f_Mo_put8 x1 x2 x3 q).bind (fun r4 => some r4)) else (if z_bad x1 16 then none else (z_nm ((x3 ||| (z_lshl ((z_lushr (z_gM q 0 x1.toNatClampNeg) ((8 : Int32) * x5)) &&& (255 : Int64)) ((8 : Int32) * ((x2 - (1 : Int32)) - x5))))) (fun n6 => z_nm (x5 + (1 : Int32)) (fun n7 => ih22 (x1, x2, n6, n7, q)))))
def k_Mo_turnRound_22 (x1 : Int32) (x2 : Int32) (x3 : Int64) (x5 : Int32) (q : z_Sg) : Option z_Sg := z_lo (fun ih22 a => kb_Mo_turnRound_22 ih22 a.1 a.2.1 a.2.2.1 a.2.2.2.1 a.2.2.2.2) 2000 (x1, x2, x3, x5, q)
def f_Mo_turnRound (x1 : Int32) (q : z_Sg) : Option z_Sg :=
  (f_Mo_wide q).bind (fun r1 => if r1 = (2 : Int32) then ((f_Mo_refuse (6 : Int32) q).bind (fun r8 => some r8)) else (k_Mo_turnRound_22 x1 r1 (0 : Int64) (0 : Int32) q))
set_option maxHeartbeats 4000000 in
set_option maxRecDepth 100000 in
theorem wb_Mo_turnRound_22 {p : Program} {l : Launch} {e : Env} {s : State} {m : MethodId} {args : Array Value} {below : List Frame} {meth : Method} {c : Code} {D : va_G} {A : Nat → Prop} {ad : Nat → Nat} {ca : Nat → ClassId} (o : z_Sg) (C0 : z_cx z_RMo b_Mo_turnRound 6 none D (z_Mt ca) A p s m args meth c) (q : z_Sg) (ih22 : Int32 × Int32 × Int64 × Int32 × z_Sg → Option z_Sg) (hi22 : ∀ a : Int32 × Int32 × Int64 × Int32 × z_Sg, ih22 a = some o → ∀ (H : Heap) (locs : List Loc) (ls : Array Slot), z_wd D (z_M ad ca a.2.2.2.2) A s H locs → lv_has ls 6 [(0, .ref (ad 0)), (1, .int a.1), (2, .int a.2.1), (3, .long a.2.2.1), (5, .int a.2.2.2.1)] → W p l e (z_rm 2 49) s m args below meth c H locs 0 0 (z_qv below D (z_Mt ca) (z_M ad ca o) A s args) (F0 m 22 ls [])) (x1 : Int32) (x2 : Int32) (x3 : Int64) (x5 : Int32) (h : kb_Mo_turnRound_22 ih22 x1 x2 x3 x5 q = some o) : ∀ (H : Heap) (locs : List Loc) (ls : Array Slot), z_wd D (z_M ad ca q) A s H locs → lv_has ls 6 [(0, .ref (ad 0)), (1, .int x1), (2, .int x2), (3, .long x3), (5, .int x5)] → W p l e (z_rm 2 49) s m args below meth c H locs 0 0 (z_qv below D (z_Mt ca) (z_M ad ca o) A s args) (F0 m 22 ls []) := by
  obtain ⟨hx, hb, hr, hlk, hml, hown, hts, hK, hA⟩ := id C0
  intro H locs ls hw hl
  refine lv_iload hx hb d_Mo_turnRound_22 (lv_at hl 4 rfl) ?_
  refine lv_iload_n hx hb d_Mo_turnRound_24 rfl (lv_at hl 2 rfl) ?_
  refine lv_icmp_ge (tgt := 63) hx hb d_Mo_turnRound_25 (by decide) (fun c3 => ?_) (fun c3 => ?_)
  · have h := ok_t h c3
    refine lv_aload_n hx hb d_Mo_turnRound_63 rfl (lv_at hl 0 rfl) ?_
    refine lv_iload_n hx hb d_Mo_turnRound_64 rfl (lv_at hl 1 rfl) ?_
    refine lv_iload_n hx hb d_Mo_turnRound_65 rfl (lv_at hl 2 rfl) ?_
    refine lv_lload_n hx hb d_Mo_turnRound_66 rfl (lv_at hl 3 rfl) ?_
    obtain ⟨r4, er4, h⟩ := ok_b h
    refine z_vv (rest := []) C0 hw (c_Mo_put8 x1 x2 x3 q r4 er4) mw_Mo_put8 ml_Mo_189 0 rfl ⟨Nat.le_of_ble_eq_true rfl, Nat.le_of_ble_eq_true rfl⟩ ⟨Nat.le_refl 0, Nat.le_refl 0⟩ rfl hl.1 rfl (Nat.le_of_ble_eq_true rfl) d_Mo_turnRound_67 (fun H locs hw => ?_)
    have ho := Option.some.inj h
    subst ho
    exact z_rtv C0 hw d_Mo_turnRound_70
  · have h := ok_f h c3
    refine lv_lload_n hx hb d_Mo_turnRound_28 rfl (lv_at hl 3 rfl) ?_
    refine lv_aload_n hx hb d_Mo_turnRound_29 rfl (lv_at hl 0 rfl) ?_
    refine gfM_0_r C0 hw fl_Mo_14 d_Mo_turnRound_30 ?_
    refine lv_iload_n hx hb d_Mo_turnRound_33 rfl (lv_at hl 1 rfl) ?_
    obtain ⟨b5, h⟩ := ok_g h
    refine alM_2 C0 hw b5 d_Mo_turnRound_34 ?_
    refine lv_bipush (v := (8 : Int32)) hx hb d_Mo_turnRound_35 (by decide) ?_
    refine lv_iload hx hb d_Mo_turnRound_37 (lv_at hl 4 rfl) ?_
    refine lv_imul hx hb d_Mo_turnRound_39 ?_
    refine lv_lushr (v := (z_lushr (z_gM q 0 x1.toNatClampNeg) ((8 : Int32) * x5))) hx hb d_Mo_turnRound_40 rfl ?_
    refine lv_ldc2 (own := z_RMo) hx hb hown (hts _ kl_Mo_106) d_Mo_turnRound_41 ?_
    refine lv_land hx hb d_Mo_turnRound_44 ?_
    refine lv_bipush (v := (8 : Int32)) hx hb d_Mo_turnRound_45 (by decide) ?_
    refine lv_iload_n hx hb d_Mo_turnRound_47 rfl (lv_at hl 2 rfl) ?_
    refine lv_iconst (v := (1 : Int32)) hx hb d_Mo_turnRound_48 (by decide) ?_
    refine lv_isub hx hb d_Mo_turnRound_49 ?_
    refine lv_iload hx hb d_Mo_turnRound_50 (lv_at hl 4 rfl) ?_
    refine lv_isub hx hb d_Mo_turnRound_52 ?_
    refine lv_imul hx hb d_Mo_turnRound_53 ?_
    refine lv_lshl (v := (z_lshl ((z_lushr (z_gM q 0 x1.toNatClampNeg) ((8 : Int32) * x5)) &&& (255 : Int64)) ((8 : Int32) * ((x2 - (1 : Int32)) - x5)))) hx hb d_Mo_turnRound_54 rfl ?_
    refine lv_lor hx hb d_Mo_turnRound_55 ?_
    obtain ⟨n6, en6, h⟩ := ok_n h
    refine z_tl en6 ?_
    refine lv_lstore_n (lv' := [(3, .long n6), (0, .ref (ad 0)), (1, .int x1), (2, .int x2), (5, .int x5)]) hx hb d_Mo_turnRound_56 rfl hl (by decide) rfl (fun ls hl => ?_)
    obtain ⟨n7, en7, h⟩ := ok_n h
    refine lv_iinc (v := n7) (lv' := [(5, .int n7), (3, .long n6), (0, .ref (ad 0)), (1, .int x1), (2, .int x2)]) hx hb d_Mo_turnRound_57 hl (k := 4) rfl (by rw [en7]; rfl) (by decide) rfl (fun ls hl => ?_)
    refine lv_goto (tgt := 22) hx hb d_Mo_turnRound_60 (by decide) ?_
    exact hi22 (x1, x2, n6, n7, q) h H locs ls hw (lv_sub hl [2, 3, 4, 1, 0] rfl)
theorem w_Mo_turnRound_22 {p : Program} {l : Launch} {e : Env} {s : State} {m : MethodId} {args : Array Value} {below : List Frame} {meth : Method} {c : Code} {D : va_G} {A : Nat → Prop} {ad : Nat → Nat} {ca : Nat → ClassId} (o : z_Sg) (C0 : z_cx z_RMo b_Mo_turnRound 6 none D (z_Mt ca) A p s m args meth c) (q : z_Sg) (x1 : Int32) (x2 : Int32) (x3 : Int64) (x5 : Int32) (h : k_Mo_turnRound_22 x1 x2 x3 x5 q = some o) : ∀ (H : Heap) (locs : List Loc) (ls : Array Slot), z_wd D (z_M ad ca q) A s H locs → lv_has ls 6 [(0, .ref (ad 0)), (1, .int x1), (2, .int x2), (3, .long x3), (5, .int x5)] → W p l e (z_rm 2 49) s m args below meth c H locs 0 0 (z_qv below D (z_Mt ca) (z_M ad ca o) A s args) (F0 m 22 ls []) := by
  have key : ∀ (n : Nat) (a : Int32 × Int32 × Int64 × Int32 × z_Sg), z_lo (fun ih22 a => kb_Mo_turnRound_22 ih22 a.1 a.2.1 a.2.2.1 a.2.2.2.1 a.2.2.2.2) n a = some o → ∀ (H : Heap) (locs : List Loc) (ls : Array Slot), z_wd D (z_M ad ca a.2.2.2.2) A s H locs → lv_has ls 6 [(0, .ref (ad 0)), (1, .int a.1), (2, .int a.2.1), (3, .long a.2.2.1), (5, .int a.2.2.2.1)] → W p l e (z_rm 2 49) s m args below meth c H locs 0 0 (z_qv below D (z_Mt ca) (z_M ad ca o) A s args) (F0 m 22 ls []) := by
    intro n
    induction n with
    | zero => intro a h; cases h
    | succ n ih => exact fun a h => wb_Mo_turnRound_22 o C0 a.2.2.2.2 (z_lo (fun ih22 a => kb_Mo_turnRound_22 ih22 a.1 a.2.1 a.2.2.1 a.2.2.2.1 a.2.2.2.2) n) ih a.1 a.2.1 a.2.2.1 a.2.2.2.1 h
  exact key 2000 (x1, x2, x3, x5, q) h
set_option maxHeartbeats 4000000 in
set_option maxRecDepth 100000 in
theorem c_Mo_turnRound {l : Launch} {D : va_G} {ad : Nat → Nat} {ca : Nat → ClassId} (x1 : Int32) (q : z_Sg) (o : z_Sg) (h : f_Mo_turnRound x1 q = some o) : z_cv l y_Mo_turnRound b_Mo_turnRound 6 none 2 49 D (z_Mt ca) (z_M ad ca q) (z_M ad ca o) [.ref (ad 0), .int x1] := by
  refine z_cv_of (own := z_RMo) (by decide) rfl ?_
  intro p e s m below meth c A C0 hw
  obtain ⟨hx, hb, hr, hlk, hml, hown, hts, hK, hA⟩ := id C0
  generalize hH : s.heap = H at hw ⊢
  generalize hlo : ([] : List Loc) = locs at hw ⊢
  refine z_entry (lv := [(0, .ref (ad 0)), (1, .int x1)]) (Nat.le_of_ble_eq_true rfl) rfl (fun ls hl => ?_)
  unfold f_Mo_turnRound at h
  refine lv_aload_n hx hb d_Mo_turnRound_0 rfl (lv_at hl 0 rfl) ?_
  obtain ⟨r1, er1, h⟩ := ok_b h
  refine z_vi (rest := []) C0 hw (c_Mo_wide q r1 er1) mw_Mo_wide ml_Mo_235 0 rfl ⟨Nat.le_of_ble_eq_true rfl, Nat.le_of_ble_eq_true rfl⟩ ⟨Nat.le_refl 0, Nat.le_refl 0⟩ rfl hl.1 rfl (Nat.le_of_ble_eq_true rfl) d_Mo_turnRound_1 (fun H locs hw => ?_)
  refine lv_istore_n (lv' := [(2, .int r1), (0, .ref (ad 0)), (1, .int x1)]) hx hb d_Mo_turnRound_4 rfl hl (by decide) rfl (fun ls hl => ?_)
  refine lv_iload_n hx hb d_Mo_turnRound_5 rfl (lv_at hl 0 rfl) ?_
  refine lv_iconst (v := (2 : Int32)) hx hb d_Mo_turnRound_6 (by decide) ?_
  refine lv_icmp_ne (tgt := 17) hx hb d_Mo_turnRound_7 (by decide) (fun c2 => ?_) (fun c2 => ?_)
  · have h := ok_f h c2
    refine lv_lconst (v := (0 : Int64)) hx hb d_Mo_turnRound_17 (by decide) ?_
    refine lv_lstore_n (lv' := [(3, .long (0 : Int64)), (2, .int r1), (0, .ref (ad 0)), (1, .int x1)]) hx hb d_Mo_turnRound_18 rfl hl (by decide) rfl (fun ls hl => ?_)
    refine lv_iconst (v := (0 : Int32)) hx hb d_Mo_turnRound_19 (by decide) ?_
    refine lv_istore (lv' := [(5, .int (0 : Int32)), (3, .long (0 : Int64)), (2, .int r1), (0, .ref (ad 0)), (1, .int x1)]) hx hb d_Mo_turnRound_20 hl (by decide) rfl (fun ls hl => ?_)
    exact w_Mo_turnRound_22 o C0 q x1 r1 (0 : Int64) (0 : Int32) h H locs ls hw (lv_sub hl [3, 4, 2, 1, 0] rfl)
  · have h := ok_t h c2
    refine lv_aload_n hx hb d_Mo_turnRound_10 rfl (lv_at hl 1 rfl) ?_
    refine lv_bipush (v := (6 : Int32)) hx hb d_Mo_turnRound_11 (by decide) ?_
    obtain ⟨r8, er8, h⟩ := ok_b h
    refine z_vv (rest := []) C0 hw (c_Mo_refuse (6 : Int32) q r8 er8) mw_Mo_refuse ml_Mo_81 0 rfl ⟨Nat.le_of_ble_eq_true rfl, Nat.le_of_ble_eq_true rfl⟩ ⟨Nat.le_refl 0, Nat.le_refl 0⟩ rfl hl.1 rfl (Nat.le_of_ble_eq_true rfl) d_Mo_turnRound_13 (fun H locs hw => ?_)
    have ho := Option.some.inj h
    subst ho
    exact z_rtv C0 hw d_Mo_turnRound_16
def k_Mo_second_402 (q : z_Sg) : Option z_Sg :=
  some q
def k_Mo_second_183 (t1 : Int32) (q : z_Sg) : Option z_Sg :=
  (f_Mo_system t1 q).bind (fun r7 => k_Mo_second_402 r7)
def k_Mo_second_172 (x1 : Int32) (q : z_Sg) : Option z_Sg :=
  if x1 = (5 : Int32) then (k_Mo_second_183 (1 : Int32) q) else (k_Mo_second_183 (0 : Int32) q)
def k_Mo_second_224 (x1 : Int32) (q : z_Sg) : Option z_Sg :=
  (f_Mo_bit x1 q).bind (fun r10 => k_Mo_second_402 r10)
def k_Mo_second_261 (x2 : Int32) (q : z_Sg) : Option z_Sg :=
  (f_Mo_compareAndChange x2 q).bind (fun r17 => k_Mo_second_402 r17)
def k_Mo_second_305 (t1 : Int32) (t3 : Int32) (q : z_Sg) : Option z_Sg :=
  (f_Mo_e t3 (0 : Int32) q).bind (fun r23 => (f_Mo_setG t1 r23.1 r23.2).bind (fun r24 => k_Mo_second_402 r24))
def k_Mo_second_283 (x1 : Int32) (q : z_Sg) : Option z_Sg :=
  (f_Mo_takeOperand q).bind (fun r20 => (f_Mo_wide r20).bind (fun r21 => if x1 = (182 : Int32) then (k_Mo_second_305 r21 (1 : Int32) r20) else (k_Mo_second_305 r21 (2 : Int32) r20)))
def k_Mo_second_346 (t1 : Int32) (t2 : Int32) (q : z_Sg) : Option z_Sg :=
  (f_Mo_extend t1 t2 q).bind (fun r29 => k_Mo_second_402 r29)
def k_Mo_second_329 (x1 : Int32) (q : z_Sg) : Option z_Sg :=
  (f_Mo_wide q).bind (fun r27 => if x1 = (190 : Int32) then (k_Mo_second_346 r27 (1 : Int32) q) else (k_Mo_second_346 r27 (2 : Int32) q))
def k_Mo_second_366 (x1 : Int32) (q : z_Sg) : Option z_Sg :=
  (f_Mo_scan x1 q).bind (fun r32 => k_Mo_second_402 r32)
def k_Mo_second_388 (x2 : Int32) (q : z_Sg) : Option z_Sg :=
  (f_Mo_addAndChange x2 q).bind (fun r35 => k_Mo_second_402 r35)
def k_Mo_second_161 (x1 : Int32) (x2 : Int32) (q : z_Sg) : Option z_Sg :=
  if x1 = (5 : Int32) then (k_Mo_second_172 x1 q) else (if x1 = (7 : Int32) then (k_Mo_second_172 x1 q) else (if x1 = (163 : Int32) then (k_Mo_second_224 x1 q) else (if x1 = (171 : Int32) then (k_Mo_second_224 x1 q) else (if x1 = (179 : Int32) then (k_Mo_second_224 x1 q) else (if x1 = (187 : Int32) then (k_Mo_second_224 x1 q) else (if x1 = (186 : Int32) then (k_Mo_second_224 x1 q) else (if x1 = (175 : Int32) then ((f_Mo_product x1 q).bind (fun r38 => k_Mo_second_402 r38)) else (if x1 = (176 : Int32) then (k_Mo_second_261 x2 q) else (if x1 = (177 : Int32) then (k_Mo_second_261 x2 q) else (if x1 = (182 : Int32) then (k_Mo_second_283 x1 q) else (if x1 = (183 : Int32) then (k_Mo_second_283 x1 q) else (if x1 = (190 : Int32) then (k_Mo_second_329 x1 q) else (if x1 = (191 : Int32) then (k_Mo_second_329 x1 q) else (if x1 = (188 : Int32) then (k_Mo_second_366 x1 q) else (if x1 = (189 : Int32) then (k_Mo_second_366 x1 q) else (if x1 = (192 : Int32) then (k_Mo_second_388 x2 q) else (if x1 = (193 : Int32) then (k_Mo_second_388 x2 q) else ((f_Mo_refuse (6 : Int32) q).bind (fun r37 => k_Mo_second_402 r37)))))))))))))))))))
def k_Mo_second_130 (x1 : Int32) (x2 : Int32) (q : z_Sg) : Option z_Sg :=
  if x1 < (200 : Int32) then (k_Mo_second_161 x1 x2 q) else (if (207 : Int32) < x1 then (k_Mo_second_161 x1 x2 q) else ((f_Mo_plus (1 : Int32) q).bind (fun r40 => (f_Mo_turnRound ((x1 - x1 / (8 : Int32) * (8 : Int32)) + r40) q).bind (fun r41 => k_Mo_second_402 r41))))
def k_Mo_second_124 (t1 : Int32) (t2 : Int64) (q : z_Sg) : Option z_Sg :=
  (f_Mo_setE t1 t2 q).bind (fun r47 => k_Mo_second_402 r47)
def k_Mo_second_84 (x1 : Int32) (x2 : Int32) (q : z_Sg) : Option z_Sg :=
  if x1 < (144 : Int32) then (k_Mo_second_130 x1 x2 q) else (if (159 : Int32) < x1 then (k_Mo_second_130 x1 x2 q) else ((f_Mo_takeOperand q).bind (fun r43 => (f_Mo_e (1 : Int32) (1 : Int32) r43).bind (fun r44 => (f_Mo_holds x1 r44.2).bind (fun r45 => if r45 = 0 then (k_Mo_second_124 (1 : Int32) (0 : Int64) r44.2) else (k_Mo_second_124 (1 : Int32) (1 : Int64) r44.2))))))
def k_Mo_second_57 (x1 : Int32) (x2 : Int32) (q : z_Sg) : Option z_Sg :=
  if x1 < (128 : Int32) then (k_Mo_second_84 x1 x2 q) else (if (143 : Int32) < x1 then (k_Mo_second_84 x1 x2 q) else ((f_Mo_holds x1 q).bind (fun r49 => (f_Mo_branch r49 (4 : Int32) q).bind (fun r50 => k_Mo_second_402 r50))))
def k_Mo_second_51 (t1 : Int32) (t2 : Int64) (q : z_Sg) : Option z_Sg :=
  (f_Mo_setG t1 t2 q).bind (fun r60 => k_Mo_second_402 r60)
def f_Mo_second (x1 : Int32) (x2 : Int32) (q : z_Sg) : Option z_Sg :=
  if x1 < (64 : Int32) then (k_Mo_second_57 x1 x2 q) else (if (79 : Int32) < x1 then (k_Mo_second_57 x1 x2 q) else ((f_Mo_takeOperand q).bind (fun r52 => (f_Mo_wide r52).bind (fun r53 => (f_Mo_e r53 (0 : Int32) r52).bind (fun r54 => (f_Mo_wide r54.2).bind (fun r55 => (f_Mo_holds x1 r54.2).bind (fun r56 => if r56 = 0 then ((f_Mo_wide r54.2).bind (fun r58 => (f_Mo_g r58 r54.2).bind (fun r59 => k_Mo_second_51 r55 r59 r54.2))) else (k_Mo_second_51 r55 r54.1 r54.2))))))))
set_option maxHeartbeats 4000000 in
set_option maxRecDepth 100000 in
theorem w_Mo_second_402 {p : Program} {l : Launch} {e : Env} {s : State} {m : MethodId} {args : Array Value} {below : List Frame} {meth : Method} {c : Code} {D : va_G} {A : Nat → Prop} {ad : Nat → Nat} {ca : Nat → ClassId} (o : z_Sg) (C0 : z_cx z_RMo b_Mo_second 5 none D (z_Mt ca) A p s m args meth c) (q : z_Sg) (h : k_Mo_second_402 q = some o) : ∀ (H : Heap) (locs : List Loc) (ls : Array Slot), z_wd D (z_M ad ca q) A s H locs → lv_has ls 5 [] → W p l e (z_rm 9 222) s m args below meth c H locs 0 0 (z_qv below D (z_Mt ca) (z_M ad ca o) A s args) (F0 m 402 ls []) := by
  obtain ⟨hx, hb, hr, hlk, hml, hown, hts, hK, hA⟩ := id C0
  intro H locs ls hw hl
  have ho := Option.some.inj h
  subst ho
  exact z_rtv C0 hw d_Mo_second_402
set_option maxHeartbeats 4000000 in
set_option maxRecDepth 100000 in
theorem w_Mo_second_183 {p : Program} {l : Launch} {e : Env} {s : State} {m : MethodId} {args : Array Value} {below : List Frame} {meth : Method} {c : Code} {D : va_G} {A : Nat → Prop} {ad : Nat → Nat} {ca : Nat → ClassId} (o : z_Sg) (C0 : z_cx z_RMo b_Mo_second 5 none D (z_Mt ca) A p s m args meth c) (q : z_Sg) (t1 : Int32) (h : k_Mo_second_183 t1 q = some o) : ∀ (H : Heap) (locs : List Loc) (ls : Array Slot), z_wd D (z_M ad ca q) A s H locs → lv_has ls 5 [] → W p l e (z_rm 9 222) s m args below meth c H locs 0 0 (z_qv below D (z_Mt ca) (z_M ad ca o) A s args) (F0 m 183 ls [.int t1, .ref (ad 0)]) := by
  obtain ⟨hx, hb, hr, hlk, hml, hown, hts, hK, hA⟩ := id C0
  intro H locs ls hw hl
  obtain ⟨r7, er7, h⟩ := ok_b h
  refine z_vv (rest := []) C0 hw (c_Mo_system t1 q r7 er7) mw_Mo_system ml_Mo_354 0 rfl ⟨Nat.le_of_ble_eq_true rfl, Nat.le_of_ble_eq_true rfl⟩ ⟨Nat.le_refl 0, Nat.le_refl 0⟩ rfl hl.1 rfl (Nat.le_of_ble_eq_true rfl) d_Mo_second_183 (fun H locs hw => ?_)
  refine lv_goto (tgt := 402) hx hb d_Mo_second_186 (by decide) ?_
  exact w_Mo_second_402 o C0 r7 h H locs ls hw (lv_sub hl [] rfl)
set_option maxHeartbeats 4000000 in
set_option maxRecDepth 100000 in
theorem w_Mo_second_172 {p : Program} {l : Launch} {e : Env} {s : State} {m : MethodId} {args : Array Value} {below : List Frame} {meth : Method} {c : Code} {D : va_G} {A : Nat → Prop} {ad : Nat → Nat} {ca : Nat → ClassId} (o : z_Sg) (C0 : z_cx z_RMo b_Mo_second 5 none D (z_Mt ca) A p s m args meth c) (q : z_Sg) (x1 : Int32) (h : k_Mo_second_172 x1 q = some o) : ∀ (H : Heap) (locs : List Loc) (ls : Array Slot), z_wd D (z_M ad ca q) A s H locs → lv_has ls 5 [(0, .ref (ad 0)), (1, .int x1)] → W p l e (z_rm 9 222) s m args below meth c H locs 0 0 (z_qv below D (z_Mt ca) (z_M ad ca o) A s args) (F0 m 172 ls []) := by
  obtain ⟨hx, hb, hr, hlk, hml, hown, hts, hK, hA⟩ := id C0
  intro H locs ls hw hl
  refine lv_aload_n hx hb d_Mo_second_172 rfl (lv_at hl 0 rfl) ?_
  refine lv_iload_n hx hb d_Mo_second_173 rfl (lv_at hl 1 rfl) ?_
  refine lv_iconst (v := (5 : Int32)) hx hb d_Mo_second_174 (by decide) ?_
  refine lv_icmp_ne (tgt := 182) hx hb d_Mo_second_175 (by decide) (fun c6 => ?_) (fun c6 => ?_)
  · have h := ok_f h c6
    refine lv_iconst (v := (0 : Int32)) hx hb d_Mo_second_182 (by decide) ?_
    exact w_Mo_second_183 o C0 q (0 : Int32) h H locs ls hw (lv_sub hl [] rfl)
  · have h := ok_t h c6
    refine lv_iconst (v := (1 : Int32)) hx hb d_Mo_second_178 (by decide) ?_
    refine lv_goto (tgt := 183) hx hb d_Mo_second_179 (by decide) ?_
    exact w_Mo_second_183 o C0 q (1 : Int32) h H locs ls hw (lv_sub hl [] rfl)
set_option maxHeartbeats 4000000 in
set_option maxRecDepth 100000 in
theorem w_Mo_second_224 {p : Program} {l : Launch} {e : Env} {s : State} {m : MethodId} {args : Array Value} {below : List Frame} {meth : Method} {c : Code} {D : va_G} {A : Nat → Prop} {ad : Nat → Nat} {ca : Nat → ClassId} (o : z_Sg) (C0 : z_cx z_RMo b_Mo_second 5 none D (z_Mt ca) A p s m args meth c) (q : z_Sg) (x1 : Int32) (h : k_Mo_second_224 x1 q = some o) : ∀ (H : Heap) (locs : List Loc) (ls : Array Slot), z_wd D (z_M ad ca q) A s H locs → lv_has ls 5 [(0, .ref (ad 0)), (1, .int x1)] → W p l e (z_rm 9 222) s m args below meth c H locs 0 0 (z_qv below D (z_Mt ca) (z_M ad ca o) A s args) (F0 m 224 ls []) := by
  obtain ⟨hx, hb, hr, hlk, hml, hown, hts, hK, hA⟩ := id C0
  intro H locs ls hw hl
  refine lv_aload_n hx hb d_Mo_second_224 rfl (lv_at hl 0 rfl) ?_
  refine lv_iload_n hx hb d_Mo_second_225 rfl (lv_at hl 1 rfl) ?_
  obtain ⟨r10, er10, h⟩ := ok_b h
  refine z_vv (rest := []) C0 hw (c_Mo_bit x1 q r10 er10) mw_Mo_bit ml_Mo_358 0 rfl ⟨Nat.le_of_ble_eq_true rfl, Nat.le_of_ble_eq_true rfl⟩ ⟨Nat.le_refl 0, Nat.le_refl 0⟩ rfl hl.1 rfl (Nat.le_of_ble_eq_true rfl) d_Mo_second_226 (fun H locs hw => ?_)
  refine lv_goto (tgt := 402) hx hb d_Mo_second_229 (by decide) ?_
  exact w_Mo_second_402 o C0 r10 h H locs ls hw (lv_sub hl [] rfl)
set_option maxHeartbeats 4000000 in
set_option maxRecDepth 100000 in
theorem w_Mo_second_261 {p : Program} {l : Launch} {e : Env} {s : State} {m : MethodId} {args : Array Value} {below : List Frame} {meth : Method} {c : Code} {D : va_G} {A : Nat → Prop} {ad : Nat → Nat} {ca : Nat → ClassId} (o : z_Sg) (C0 : z_cx z_RMo b_Mo_second 5 none D (z_Mt ca) A p s m args meth c) (q : z_Sg) (x2 : Int32) (h : k_Mo_second_261 x2 q = some o) : ∀ (H : Heap) (locs : List Loc) (ls : Array Slot), z_wd D (z_M ad ca q) A s H locs → lv_has ls 5 [(0, .ref (ad 0)), (2, .int x2)] → W p l e (z_rm 9 222) s m args below meth c H locs 0 0 (z_qv below D (z_Mt ca) (z_M ad ca o) A s args) (F0 m 261 ls []) := by
  obtain ⟨hx, hb, hr, hlk, hml, hown, hts, hK, hA⟩ := id C0
  intro H locs ls hw hl
  refine lv_aload_n hx hb d_Mo_second_261 rfl (lv_at hl 0 rfl) ?_
  refine lv_iload_n hx hb d_Mo_second_262 rfl (lv_at hl 1 rfl) ?_
  obtain ⟨r17, er17, h⟩ := ok_b h
  refine z_vv (rest := []) C0 hw (c_Mo_compareAndChange x2 q r17 er17) mw_Mo_compareAndChange ml_Mo_361 0 rfl ⟨Nat.le_of_ble_eq_true rfl, Nat.le_of_ble_eq_true rfl⟩ ⟨Nat.le_refl 0, Nat.le_refl 0⟩ rfl hl.1 rfl (Nat.le_of_ble_eq_true rfl) d_Mo_second_263 (fun H locs hw => ?_)
  refine lv_goto (tgt := 402) hx hb d_Mo_second_266 (by decide) ?_
  exact w_Mo_second_402 o C0 r17 h H locs ls hw (lv_sub hl [] rfl)
set_option maxHeartbeats 4000000 in
set_option maxRecDepth 100000 in
theorem w_Mo_second_305 {p : Program} {l : Launch} {e : Env} {s : State} {m : MethodId} {args : Array Value} {below : List Frame} {meth : Method} {c : Code} {D : va_G} {A : Nat → Prop} {ad : Nat → Nat} {ca : Nat → ClassId} (o : z_Sg) (C0 : z_cx z_RMo b_Mo_second 5 none D (z_Mt ca) A p s m args meth c) (q : z_Sg) (t1 : Int32) (t3 : Int32) (h : k_Mo_second_305 t1 t3 q = some o) : ∀ (H : Heap) (locs : List Loc) (ls : Array Slot), z_wd D (z_M ad ca q) A s H locs → lv_has ls 5 [] → W p l e (z_rm 9 222) s m args below meth c H locs 0 0 (z_qv below D (z_Mt ca) (z_M ad ca o) A s args) (F0 m 305 ls [.int t3, .ref (ad 0), .int t1, .ref (ad 0)]) := by
  obtain ⟨hx, hb, hr, hlk, hml, hown, hts, hK, hA⟩ := id C0
  intro H locs ls hw hl
  refine lv_iconst (v := (0 : Int32)) hx hb d_Mo_second_305 (by decide) ?_
  obtain ⟨r23, er23, h⟩ := ok_b h
  refine z_vl (rest := [.int t1, .ref (ad 0)]) C0 hw (c_Mo_e t3 (0 : Int32) q r23 er23) mw_Mo_e ml_Mo_338 0 rfl ⟨Nat.le_of_ble_eq_true rfl, Nat.le_of_ble_eq_true rfl⟩ ⟨Nat.le_refl 0, Nat.le_refl 0⟩ rfl hl.1 rfl (Nat.le_of_ble_eq_true rfl) d_Mo_second_306 (fun H locs hw => ?_)
  obtain ⟨r24, er24, h⟩ := ok_b h
  refine z_vv (rest := []) C0 hw (c_Mo_setG t1 r23.1 r23.2 r24 er24) mw_Mo_setG ml_Mo_344 0 rfl ⟨Nat.le_of_ble_eq_true rfl, Nat.le_of_ble_eq_true rfl⟩ ⟨Nat.le_refl 0, Nat.le_refl 0⟩ rfl hl.1 rfl (Nat.le_of_ble_eq_true rfl) d_Mo_second_309 (fun H locs hw => ?_)
  refine lv_goto (tgt := 402) hx hb d_Mo_second_312 (by decide) ?_
  exact w_Mo_second_402 o C0 r24 h H locs ls hw (lv_sub hl [] rfl)
set_option maxHeartbeats 4000000 in
set_option maxRecDepth 100000 in
theorem w_Mo_second_283 {p : Program} {l : Launch} {e : Env} {s : State} {m : MethodId} {args : Array Value} {below : List Frame} {meth : Method} {c : Code} {D : va_G} {A : Nat → Prop} {ad : Nat → Nat} {ca : Nat → ClassId} (o : z_Sg) (C0 : z_cx z_RMo b_Mo_second 5 none D (z_Mt ca) A p s m args meth c) (q : z_Sg) (x1 : Int32) (h : k_Mo_second_283 x1 q = some o) : ∀ (H : Heap) (locs : List Loc) (ls : Array Slot), z_wd D (z_M ad ca q) A s H locs → lv_has ls 5 [(0, .ref (ad 0)), (1, .int x1)] → W p l e (z_rm 9 222) s m args below meth c H locs 0 0 (z_qv below D (z_Mt ca) (z_M ad ca o) A s args) (F0 m 283 ls []) := by
  obtain ⟨hx, hb, hr, hlk, hml, hown, hts, hK, hA⟩ := id C0
  intro H locs ls hw hl
  refine lv_aload_n hx hb d_Mo_second_283 rfl (lv_at hl 0 rfl) ?_
  obtain ⟨r20, er20, h⟩ := ok_b h
  refine z_vv (rest := []) C0 hw (c_Mo_takeOperand q r20 er20) mw_Mo_takeOperand ml_Mo_335 0 rfl ⟨Nat.le_of_ble_eq_true rfl, Nat.le_of_ble_eq_true rfl⟩ ⟨Nat.le_refl 0, Nat.le_refl 0⟩ rfl hl.1 rfl (Nat.le_of_ble_eq_true rfl) d_Mo_second_284 (fun H locs hw => ?_)
  refine lv_aload_n hx hb d_Mo_second_287 rfl (lv_at hl 0 rfl) ?_
  refine lv_aload_n hx hb d_Mo_second_288 rfl (lv_at hl 0 rfl) ?_
  obtain ⟨r21, er21, h⟩ := ok_b h
  refine z_vi (rest := [.ref (ad 0)]) C0 hw (c_Mo_wide r20 r21 er21) mw_Mo_wide ml_Mo_235 0 rfl ⟨Nat.le_of_ble_eq_true rfl, Nat.le_of_ble_eq_true rfl⟩ ⟨Nat.le_refl 0, Nat.le_refl 0⟩ rfl hl.1 rfl (Nat.le_of_ble_eq_true rfl) d_Mo_second_289 (fun H locs hw => ?_)
  refine lv_aload_n hx hb d_Mo_second_292 rfl (lv_at hl 0 rfl) ?_
  refine lv_iload_n hx hb d_Mo_second_293 rfl (lv_at hl 1 rfl) ?_
  refine lv_sipush (v := (182 : Int32)) hx hb d_Mo_second_294 (by decide) ?_
  refine lv_icmp_ne (tgt := 304) hx hb d_Mo_second_297 (by decide) (fun c22 => ?_) (fun c22 => ?_)
  · have h := ok_f h c22
    refine lv_iconst (v := (2 : Int32)) hx hb d_Mo_second_304 (by decide) ?_
    exact w_Mo_second_305 o C0 r20 r21 (2 : Int32) h H locs ls hw (lv_sub hl [] rfl)
  · have h := ok_t h c22
    refine lv_iconst (v := (1 : Int32)) hx hb d_Mo_second_300 (by decide) ?_
    refine lv_goto (tgt := 305) hx hb d_Mo_second_301 (by decide) ?_
    exact w_Mo_second_305 o C0 r20 r21 (1 : Int32) h H locs ls hw (lv_sub hl [] rfl)
set_option maxHeartbeats 4000000 in
set_option maxRecDepth 100000 in
theorem w_Mo_second_346 {p : Program} {l : Launch} {e : Env} {s : State} {m : MethodId} {args : Array Value} {below : List Frame} {meth : Method} {c : Code} {D : va_G} {A : Nat → Prop} {ad : Nat → Nat} {ca : Nat → ClassId} (o : z_Sg) (C0 : z_cx z_RMo b_Mo_second 5 none D (z_Mt ca) A p s m args meth c) (q : z_Sg) (t1 : Int32) (t2 : Int32) (h : k_Mo_second_346 t1 t2 q = some o) : ∀ (H : Heap) (locs : List Loc) (ls : Array Slot), z_wd D (z_M ad ca q) A s H locs → lv_has ls 5 [] → W p l e (z_rm 9 222) s m args below meth c H locs 0 0 (z_qv below D (z_Mt ca) (z_M ad ca o) A s args) (F0 m 346 ls [.int t2, .int t1, .ref (ad 0)]) := by
  obtain ⟨hx, hb, hr, hlk, hml, hown, hts, hK, hA⟩ := id C0
  intro H locs ls hw hl
  obtain ⟨r29, er29, h⟩ := ok_b h
  refine z_vv (rest := []) C0 hw (c_Mo_extend t1 t2 q r29 er29) mw_Mo_extend ml_Mo_289 0 rfl ⟨Nat.le_of_ble_eq_true rfl, Nat.le_of_ble_eq_true rfl⟩ ⟨Nat.le_refl 0, Nat.le_refl 0⟩ rfl hl.1 rfl (Nat.le_of_ble_eq_true rfl) d_Mo_second_346 (fun H locs hw => ?_)
  refine lv_goto (tgt := 402) hx hb d_Mo_second_349 (by decide) ?_
  exact w_Mo_second_402 o C0 r29 h H locs ls hw (lv_sub hl [] rfl)
set_option maxHeartbeats 4000000 in
set_option maxRecDepth 100000 in
theorem w_Mo_second_329 {p : Program} {l : Launch} {e : Env} {s : State} {m : MethodId} {args : Array Value} {below : List Frame} {meth : Method} {c : Code} {D : va_G} {A : Nat → Prop} {ad : Nat → Nat} {ca : Nat → ClassId} (o : z_Sg) (C0 : z_cx z_RMo b_Mo_second 5 none D (z_Mt ca) A p s m args meth c) (q : z_Sg) (x1 : Int32) (h : k_Mo_second_329 x1 q = some o) : ∀ (H : Heap) (locs : List Loc) (ls : Array Slot), z_wd D (z_M ad ca q) A s H locs → lv_has ls 5 [(0, .ref (ad 0)), (1, .int x1)] → W p l e (z_rm 9 222) s m args below meth c H locs 0 0 (z_qv below D (z_Mt ca) (z_M ad ca o) A s args) (F0 m 329 ls []) := by
  obtain ⟨hx, hb, hr, hlk, hml, hown, hts, hK, hA⟩ := id C0
  intro H locs ls hw hl
  refine lv_aload_n hx hb d_Mo_second_329 rfl (lv_at hl 0 rfl) ?_
  refine lv_aload_n hx hb d_Mo_second_330 rfl (lv_at hl 0 rfl) ?_
  obtain ⟨r27, er27, h⟩ := ok_b h
  refine z_vi (rest := [.ref (ad 0)]) C0 hw (c_Mo_wide q r27 er27) mw_Mo_wide ml_Mo_235 0 rfl ⟨Nat.le_of_ble_eq_true rfl, Nat.le_of_ble_eq_true rfl⟩ ⟨Nat.le_refl 0, Nat.le_refl 0⟩ rfl hl.1 rfl (Nat.le_of_ble_eq_true rfl) d_Mo_second_331 (fun H locs hw => ?_)
  refine lv_iload_n hx hb d_Mo_second_334 rfl (lv_at hl 1 rfl) ?_
  refine lv_sipush (v := (190 : Int32)) hx hb d_Mo_second_335 (by decide) ?_
  refine lv_icmp_ne (tgt := 345) hx hb d_Mo_second_338 (by decide) (fun c28 => ?_) (fun c28 => ?_)
  · have h := ok_f h c28
    refine lv_iconst (v := (2 : Int32)) hx hb d_Mo_second_345 (by decide) ?_
    exact w_Mo_second_346 o C0 q r27 (2 : Int32) h H locs ls hw (lv_sub hl [] rfl)
  · have h := ok_t h c28
    refine lv_iconst (v := (1 : Int32)) hx hb d_Mo_second_341 (by decide) ?_
    refine lv_goto (tgt := 346) hx hb d_Mo_second_342 (by decide) ?_
    exact w_Mo_second_346 o C0 q r27 (1 : Int32) h H locs ls hw (lv_sub hl [] rfl)
set_option maxHeartbeats 4000000 in
set_option maxRecDepth 100000 in
theorem w_Mo_second_366 {p : Program} {l : Launch} {e : Env} {s : State} {m : MethodId} {args : Array Value} {below : List Frame} {meth : Method} {c : Code} {D : va_G} {A : Nat → Prop} {ad : Nat → Nat} {ca : Nat → ClassId} (o : z_Sg) (C0 : z_cx z_RMo b_Mo_second 5 none D (z_Mt ca) A p s m args meth c) (q : z_Sg) (x1 : Int32) (h : k_Mo_second_366 x1 q = some o) : ∀ (H : Heap) (locs : List Loc) (ls : Array Slot), z_wd D (z_M ad ca q) A s H locs → lv_has ls 5 [(0, .ref (ad 0)), (1, .int x1)] → W p l e (z_rm 9 222) s m args below meth c H locs 0 0 (z_qv below D (z_Mt ca) (z_M ad ca o) A s args) (F0 m 366 ls []) := by
  obtain ⟨hx, hb, hr, hlk, hml, hown, hts, hK, hA⟩ := id C0
  intro H locs ls hw hl
  refine lv_aload_n hx hb d_Mo_second_366 rfl (lv_at hl 0 rfl) ?_
  refine lv_iload_n hx hb d_Mo_second_367 rfl (lv_at hl 1 rfl) ?_
  obtain ⟨r32, er32, h⟩ := ok_b h
  refine z_vv (rest := []) C0 hw (c_Mo_scan x1 q r32 er32) mw_Mo_scan ml_Mo_364 0 rfl ⟨Nat.le_of_ble_eq_true rfl, Nat.le_of_ble_eq_true rfl⟩ ⟨Nat.le_refl 0, Nat.le_refl 0⟩ rfl hl.1 rfl (Nat.le_of_ble_eq_true rfl) d_Mo_second_368 (fun H locs hw => ?_)
  refine lv_goto (tgt := 402) hx hb d_Mo_second_371 (by decide) ?_
  exact w_Mo_second_402 o C0 r32 h H locs ls hw (lv_sub hl [] rfl)
set_option maxHeartbeats 4000000 in
set_option maxRecDepth 100000 in
theorem w_Mo_second_388 {p : Program} {l : Launch} {e : Env} {s : State} {m : MethodId} {args : Array Value} {below : List Frame} {meth : Method} {c : Code} {D : va_G} {A : Nat → Prop} {ad : Nat → Nat} {ca : Nat → ClassId} (o : z_Sg) (C0 : z_cx z_RMo b_Mo_second 5 none D (z_Mt ca) A p s m args meth c) (q : z_Sg) (x2 : Int32) (h : k_Mo_second_388 x2 q = some o) : ∀ (H : Heap) (locs : List Loc) (ls : Array Slot), z_wd D (z_M ad ca q) A s H locs → lv_has ls 5 [(0, .ref (ad 0)), (2, .int x2)] → W p l e (z_rm 9 222) s m args below meth c H locs 0 0 (z_qv below D (z_Mt ca) (z_M ad ca o) A s args) (F0 m 388 ls []) := by
  obtain ⟨hx, hb, hr, hlk, hml, hown, hts, hK, hA⟩ := id C0
  intro H locs ls hw hl
  refine lv_aload_n hx hb d_Mo_second_388 rfl (lv_at hl 0 rfl) ?_
  refine lv_iload_n hx hb d_Mo_second_389 rfl (lv_at hl 1 rfl) ?_
  obtain ⟨r35, er35, h⟩ := ok_b h
  refine z_vv (rest := []) C0 hw (c_Mo_addAndChange x2 q r35 er35) mw_Mo_addAndChange ml_Mo_367 0 rfl ⟨Nat.le_of_ble_eq_true rfl, Nat.le_of_ble_eq_true rfl⟩ ⟨Nat.le_refl 0, Nat.le_refl 0⟩ rfl hl.1 rfl (Nat.le_of_ble_eq_true rfl) d_Mo_second_390 (fun H locs hw => ?_)
  refine lv_goto (tgt := 402) hx hb d_Mo_second_393 (by decide) ?_
  exact w_Mo_second_402 o C0 r35 h H locs ls hw (lv_sub hl [] rfl)
set_option maxHeartbeats 4000000 in
set_option maxRecDepth 100000 in
theorem w_Mo_second_161 {p : Program} {l : Launch} {e : Env} {s : State} {m : MethodId} {args : Array Value} {below : List Frame} {meth : Method} {c : Code} {D : va_G} {A : Nat → Prop} {ad : Nat → Nat} {ca : Nat → ClassId} (o : z_Sg) (C0 : z_cx z_RMo b_Mo_second 5 none D (z_Mt ca) A p s m args meth c) (q : z_Sg) (x1 : Int32) (x2 : Int32) (h : k_Mo_second_161 x1 x2 q = some o) : ∀ (H : Heap) (locs : List Loc) (ls : Array Slot), z_wd D (z_M ad ca q) A s H locs → lv_has ls 5 [(0, .ref (ad 0)), (1, .int x1), (2, .int x2)] → W p l e (z_rm 9 222) s m args below meth c H locs 0 0 (z_qv below D (z_Mt ca) (z_M ad ca o) A s args) (F0 m 161 ls []) := by
  obtain ⟨hx, hb, hr, hlk, hml, hown, hts, hK, hA⟩ := id C0
  intro H locs ls hw hl
  refine lv_iload_n hx hb d_Mo_second_161 rfl (lv_at hl 1 rfl) ?_
  refine lv_iconst (v := (5 : Int32)) hx hb d_Mo_second_162 (by decide) ?_
  refine lv_icmp_eq (tgt := 172) hx hb d_Mo_second_163 (by decide) (fun c5 => ?_) (fun c5 => ?_)
  · have h := ok_t h c5
    exact w_Mo_second_172 o C0 q x1 h H locs ls hw (lv_sub hl [0, 1] rfl)
  · have h := ok_f h c5
    refine lv_iload_n hx hb d_Mo_second_166 rfl (lv_at hl 1 rfl) ?_
    refine lv_bipush (v := (7 : Int32)) hx hb d_Mo_second_167 (by decide) ?_
    refine lv_icmp_ne (tgt := 189) hx hb d_Mo_second_169 (by decide) (fun c8 => ?_) (fun c8 => ?_)
    · have h := ok_f h c8
      refine lv_iload_n hx hb d_Mo_second_189 rfl (lv_at hl 1 rfl) ?_
      refine lv_sipush (v := (163 : Int32)) hx hb d_Mo_second_190 (by decide) ?_
      refine lv_icmp_eq (tgt := 224) hx hb d_Mo_second_193 (by decide) (fun c9 => ?_) (fun c9 => ?_)
      · have h := ok_t h c9
        exact w_Mo_second_224 o C0 q x1 h H locs ls hw (lv_sub hl [0, 1] rfl)
      · have h := ok_f h c9
        refine lv_iload_n hx hb d_Mo_second_196 rfl (lv_at hl 1 rfl) ?_
        refine lv_sipush (v := (171 : Int32)) hx hb d_Mo_second_197 (by decide) ?_
        refine lv_icmp_eq (tgt := 224) hx hb d_Mo_second_200 (by decide) (fun c11 => ?_) (fun c11 => ?_)
        · have h := ok_t h c11
          exact w_Mo_second_224 o C0 q x1 h H locs ls hw (lv_sub hl [0, 1] rfl)
        · have h := ok_f h c11
          refine lv_iload_n hx hb d_Mo_second_203 rfl (lv_at hl 1 rfl) ?_
          refine lv_sipush (v := (179 : Int32)) hx hb d_Mo_second_204 (by decide) ?_
          refine lv_icmp_eq (tgt := 224) hx hb d_Mo_second_207 (by decide) (fun c12 => ?_) (fun c12 => ?_)
          · have h := ok_t h c12
            exact w_Mo_second_224 o C0 q x1 h H locs ls hw (lv_sub hl [0, 1] rfl)
          · have h := ok_f h c12
            refine lv_iload_n hx hb d_Mo_second_210 rfl (lv_at hl 1 rfl) ?_
            refine lv_sipush (v := (187 : Int32)) hx hb d_Mo_second_211 (by decide) ?_
            refine lv_icmp_eq (tgt := 224) hx hb d_Mo_second_214 (by decide) (fun c13 => ?_) (fun c13 => ?_)
            · have h := ok_t h c13
              exact w_Mo_second_224 o C0 q x1 h H locs ls hw (lv_sub hl [0, 1] rfl)
            · have h := ok_f h c13
              refine lv_iload_n hx hb d_Mo_second_217 rfl (lv_at hl 1 rfl) ?_
              refine lv_sipush (v := (186 : Int32)) hx hb d_Mo_second_218 (by decide) ?_
              refine lv_icmp_ne (tgt := 232) hx hb d_Mo_second_221 (by decide) (fun c14 => ?_) (fun c14 => ?_)
              · have h := ok_f h c14
                refine lv_iload_n hx hb d_Mo_second_232 rfl (lv_at hl 1 rfl) ?_
                refine lv_sipush (v := (175 : Int32)) hx hb d_Mo_second_233 (by decide) ?_
                refine lv_icmp_ne (tgt := 247) hx hb d_Mo_second_236 (by decide) (fun c15 => ?_) (fun c15 => ?_)
                · have h := ok_f h c15
                  refine lv_iload_n hx hb d_Mo_second_247 rfl (lv_at hl 1 rfl) ?_
                  refine lv_sipush (v := (176 : Int32)) hx hb d_Mo_second_248 (by decide) ?_
                  refine lv_icmp_eq (tgt := 261) hx hb d_Mo_second_251 (by decide) (fun c16 => ?_) (fun c16 => ?_)
                  · have h := ok_t h c16
                    exact w_Mo_second_261 o C0 q x2 h H locs ls hw (lv_sub hl [0, 2] rfl)
                  · have h := ok_f h c16
                    refine lv_iload_n hx hb d_Mo_second_254 rfl (lv_at hl 1 rfl) ?_
                    refine lv_sipush (v := (177 : Int32)) hx hb d_Mo_second_255 (by decide) ?_
                    refine lv_icmp_ne (tgt := 269) hx hb d_Mo_second_258 (by decide) (fun c18 => ?_) (fun c18 => ?_)
                    · have h := ok_f h c18
                      refine lv_iload_n hx hb d_Mo_second_269 rfl (lv_at hl 1 rfl) ?_
                      refine lv_sipush (v := (182 : Int32)) hx hb d_Mo_second_270 (by decide) ?_
                      refine lv_icmp_eq (tgt := 283) hx hb d_Mo_second_273 (by decide) (fun c19 => ?_) (fun c19 => ?_)
                      · have h := ok_t h c19
                        exact w_Mo_second_283 o C0 q x1 h H locs ls hw (lv_sub hl [0, 1] rfl)
                      · have h := ok_f h c19
                        refine lv_iload_n hx hb d_Mo_second_276 rfl (lv_at hl 1 rfl) ?_
                        refine lv_sipush (v := (183 : Int32)) hx hb d_Mo_second_277 (by decide) ?_
                        refine lv_icmp_ne (tgt := 315) hx hb d_Mo_second_280 (by decide) (fun c25 => ?_) (fun c25 => ?_)
                        · have h := ok_f h c25
                          refine lv_iload_n hx hb d_Mo_second_315 rfl (lv_at hl 1 rfl) ?_
                          refine lv_sipush (v := (190 : Int32)) hx hb d_Mo_second_316 (by decide) ?_
                          refine lv_icmp_eq (tgt := 329) hx hb d_Mo_second_319 (by decide) (fun c26 => ?_) (fun c26 => ?_)
                          · have h := ok_t h c26
                            exact w_Mo_second_329 o C0 q x1 h H locs ls hw (lv_sub hl [0, 1] rfl)
                          · have h := ok_f h c26
                            refine lv_iload_n hx hb d_Mo_second_322 rfl (lv_at hl 1 rfl) ?_
                            refine lv_sipush (v := (191 : Int32)) hx hb d_Mo_second_323 (by decide) ?_
                            refine lv_icmp_ne (tgt := 352) hx hb d_Mo_second_326 (by decide) (fun c30 => ?_) (fun c30 => ?_)
                            · have h := ok_f h c30
                              refine lv_iload_n hx hb d_Mo_second_352 rfl (lv_at hl 1 rfl) ?_
                              refine lv_sipush (v := (188 : Int32)) hx hb d_Mo_second_353 (by decide) ?_
                              refine lv_icmp_eq (tgt := 366) hx hb d_Mo_second_356 (by decide) (fun c31 => ?_) (fun c31 => ?_)
                              · have h := ok_t h c31
                                exact w_Mo_second_366 o C0 q x1 h H locs ls hw (lv_sub hl [0, 1] rfl)
                              · have h := ok_f h c31
                                refine lv_iload_n hx hb d_Mo_second_359 rfl (lv_at hl 1 rfl) ?_
                                refine lv_sipush (v := (189 : Int32)) hx hb d_Mo_second_360 (by decide) ?_
                                refine lv_icmp_ne (tgt := 374) hx hb d_Mo_second_363 (by decide) (fun c33 => ?_) (fun c33 => ?_)
                                · have h := ok_f h c33
                                  refine lv_iload_n hx hb d_Mo_second_374 rfl (lv_at hl 1 rfl) ?_
                                  refine lv_sipush (v := (192 : Int32)) hx hb d_Mo_second_375 (by decide) ?_
                                  refine lv_icmp_eq (tgt := 388) hx hb d_Mo_second_378 (by decide) (fun c34 => ?_) (fun c34 => ?_)
                                  · have h := ok_t h c34
                                    exact w_Mo_second_388 o C0 q x2 h H locs ls hw (lv_sub hl [0, 2] rfl)
                                  · have h := ok_f h c34
                                    refine lv_iload_n hx hb d_Mo_second_381 rfl (lv_at hl 1 rfl) ?_
                                    refine lv_sipush (v := (193 : Int32)) hx hb d_Mo_second_382 (by decide) ?_
                                    refine lv_icmp_ne (tgt := 396) hx hb d_Mo_second_385 (by decide) (fun c36 => ?_) (fun c36 => ?_)
                                    · have h := ok_f h c36
                                      refine lv_aload_n hx hb d_Mo_second_396 rfl (lv_at hl 0 rfl) ?_
                                      refine lv_bipush (v := (6 : Int32)) hx hb d_Mo_second_397 (by decide) ?_
                                      obtain ⟨r37, er37, h⟩ := ok_b h
                                      refine z_vv (rest := []) C0 hw (c_Mo_refuse (6 : Int32) q r37 er37) mw_Mo_refuse ml_Mo_81 0 rfl ⟨Nat.le_of_ble_eq_true rfl, Nat.le_of_ble_eq_true rfl⟩ ⟨Nat.le_refl 0, Nat.le_refl 0⟩ rfl hl.1 rfl (Nat.le_of_ble_eq_true rfl) d_Mo_second_399 (fun H locs hw => ?_)
                                      exact w_Mo_second_402 o C0 r37 h H locs ls hw (lv_sub hl [] rfl)
                                    · have h := ok_t h c36
                                      exact w_Mo_second_388 o C0 q x2 h H locs ls hw (lv_sub hl [0, 2] rfl)
                                · have h := ok_t h c33
                                  exact w_Mo_second_366 o C0 q x1 h H locs ls hw (lv_sub hl [0, 1] rfl)
                            · have h := ok_t h c30
                              exact w_Mo_second_329 o C0 q x1 h H locs ls hw (lv_sub hl [0, 1] rfl)
                        · have h := ok_t h c25
                          exact w_Mo_second_283 o C0 q x1 h H locs ls hw (lv_sub hl [0, 1] rfl)
                    · have h := ok_t h c18
                      exact w_Mo_second_261 o C0 q x2 h H locs ls hw (lv_sub hl [0, 2] rfl)
                · have h := ok_t h c15
                  refine lv_aload_n hx hb d_Mo_second_239 rfl (lv_at hl 0 rfl) ?_
                  refine lv_iload_n hx hb d_Mo_second_240 rfl (lv_at hl 1 rfl) ?_
                  obtain ⟨r38, er38, h⟩ := ok_b h
                  refine z_vv (rest := []) C0 hw (c_Mo_product x1 q r38 er38) mw_Mo_product ml_Mo_295 0 rfl ⟨Nat.le_of_ble_eq_true rfl, Nat.le_of_ble_eq_true rfl⟩ ⟨Nat.le_refl 0, Nat.le_refl 0⟩ rfl hl.1 rfl (Nat.le_of_ble_eq_true rfl) d_Mo_second_241 (fun H locs hw => ?_)
                  refine lv_goto (tgt := 402) hx hb d_Mo_second_244 (by decide) ?_
                  exact w_Mo_second_402 o C0 r38 h H locs ls hw (lv_sub hl [] rfl)
              · have h := ok_t h c14
                exact w_Mo_second_224 o C0 q x1 h H locs ls hw (lv_sub hl [0, 1] rfl)
    · have h := ok_t h c8
      exact w_Mo_second_172 o C0 q x1 h H locs ls hw (lv_sub hl [0, 1] rfl)
set_option maxHeartbeats 4000000 in
set_option maxRecDepth 100000 in
theorem w_Mo_second_130 {p : Program} {l : Launch} {e : Env} {s : State} {m : MethodId} {args : Array Value} {below : List Frame} {meth : Method} {c : Code} {D : va_G} {A : Nat → Prop} {ad : Nat → Nat} {ca : Nat → ClassId} (o : z_Sg) (C0 : z_cx z_RMo b_Mo_second 5 none D (z_Mt ca) A p s m args meth c) (q : z_Sg) (x1 : Int32) (x2 : Int32) (h : k_Mo_second_130 x1 x2 q = some o) : ∀ (H : Heap) (locs : List Loc) (ls : Array Slot), z_wd D (z_M ad ca q) A s H locs → lv_has ls 5 [(0, .ref (ad 0)), (1, .int x1), (2, .int x2)] → W p l e (z_rm 9 222) s m args below meth c H locs 0 0 (z_qv below D (z_Mt ca) (z_M ad ca o) A s args) (F0 m 130 ls []) := by
  obtain ⟨hx, hb, hr, hlk, hml, hown, hts, hK, hA⟩ := id C0
  intro H locs ls hw hl
  refine lv_iload_n hx hb d_Mo_second_130 rfl (lv_at hl 1 rfl) ?_
  refine lv_sipush (v := (200 : Int32)) hx hb d_Mo_second_131 (by decide) ?_
  refine lv_icmp_lt (tgt := 161) hx hb d_Mo_second_134 (by decide) (fun c4 => ?_) (fun c4 => ?_)
  · have h := ok_t h c4
    exact w_Mo_second_161 o C0 q x1 x2 h H locs ls hw (lv_sub hl [0, 1, 2] rfl)
  · have h := ok_f h c4
    refine lv_iload_n hx hb d_Mo_second_137 rfl (lv_at hl 1 rfl) ?_
    refine lv_sipush (v := (207 : Int32)) hx hb d_Mo_second_138 (by decide) ?_
    refine lv_icmp_gt (tgt := 161) hx hb d_Mo_second_141 (by decide) (fun c39 => ?_) (fun c39 => ?_)
    · have h := ok_t h c39
      exact w_Mo_second_161 o C0 q x1 x2 h H locs ls hw (lv_sub hl [0, 1, 2] rfl)
    · have h := ok_f h c39
      refine lv_aload_n hx hb d_Mo_second_144 rfl (lv_at hl 0 rfl) ?_
      refine lv_iload_n hx hb d_Mo_second_145 rfl (lv_at hl 1 rfl) ?_
      refine lv_bipush (v := (8 : Int32)) hx hb d_Mo_second_146 (by decide) ?_
      refine lv_irem hx hb d_Mo_second_148 (by decide) ?_
      refine lv_aload_n hx hb d_Mo_second_149 rfl (lv_at hl 0 rfl) ?_
      refine lv_iconst (v := (1 : Int32)) hx hb d_Mo_second_150 (by decide) ?_
      obtain ⟨r40, er40, h⟩ := ok_b h
      refine z_vi (rest := [.int (x1 - x1 / (8 : Int32) * (8 : Int32)), .ref (ad 0)]) C0 hw (c_Mo_plus (1 : Int32) q r40 er40) mw_Mo_plus ml_Mo_157 0 rfl ⟨Nat.le_of_ble_eq_true rfl, Nat.le_of_ble_eq_true rfl⟩ ⟨Nat.le_refl 0, Nat.le_refl 0⟩ rfl hl.1 rfl (Nat.le_of_ble_eq_true rfl) d_Mo_second_151 (fun H locs hw => ?_)
      refine lv_iadd hx hb d_Mo_second_154 ?_
      obtain ⟨r41, er41, h⟩ := ok_b h
      refine z_vv (rest := []) C0 hw (c_Mo_turnRound ((x1 - x1 / (8 : Int32) * (8 : Int32)) + r40) q r41 er41) mw_Mo_turnRound ml_Mo_351 0 rfl ⟨Nat.le_of_ble_eq_true rfl, Nat.le_of_ble_eq_true rfl⟩ ⟨Nat.le_refl 0, Nat.le_refl 0⟩ rfl hl.1 rfl (Nat.le_of_ble_eq_true rfl) d_Mo_second_155 (fun H locs hw => ?_)
      refine lv_goto (tgt := 402) hx hb d_Mo_second_158 (by decide) ?_
      exact w_Mo_second_402 o C0 r41 h H locs ls hw (lv_sub hl [] rfl)
set_option maxHeartbeats 4000000 in
set_option maxRecDepth 100000 in
theorem w_Mo_second_124 {p : Program} {l : Launch} {e : Env} {s : State} {m : MethodId} {args : Array Value} {below : List Frame} {meth : Method} {c : Code} {D : va_G} {A : Nat → Prop} {ad : Nat → Nat} {ca : Nat → ClassId} (o : z_Sg) (C0 : z_cx z_RMo b_Mo_second 5 none D (z_Mt ca) A p s m args meth c) (q : z_Sg) (t1 : Int32) (t2 : Int64) (h : k_Mo_second_124 t1 t2 q = some o) : ∀ (H : Heap) (locs : List Loc) (ls : Array Slot), z_wd D (z_M ad ca q) A s H locs → lv_has ls 5 [] → W p l e (z_rm 9 222) s m args below meth c H locs 0 0 (z_qv below D (z_Mt ca) (z_M ad ca o) A s args) (F0 m 124 ls [.long t2, .int t1, .ref (ad 0)]) := by
  obtain ⟨hx, hb, hr, hlk, hml, hown, hts, hK, hA⟩ := id C0
  intro H locs ls hw hl
  obtain ⟨r47, er47, h⟩ := ok_b h
  refine z_vv (rest := []) C0 hw (c_Mo_setE t1 t2 q r47 er47) mw_Mo_setE ml_Mo_348 0 rfl ⟨Nat.le_of_ble_eq_true rfl, Nat.le_of_ble_eq_true rfl⟩ ⟨Nat.le_refl 0, Nat.le_refl 0⟩ rfl hl.1 rfl (Nat.le_of_ble_eq_true rfl) d_Mo_second_124 (fun H locs hw => ?_)
  refine lv_goto (tgt := 402) hx hb d_Mo_second_127 (by decide) ?_
  exact w_Mo_second_402 o C0 r47 h H locs ls hw (lv_sub hl [] rfl)
set_option maxHeartbeats 4000000 in
set_option maxRecDepth 100000 in
theorem w_Mo_second_84 {p : Program} {l : Launch} {e : Env} {s : State} {m : MethodId} {args : Array Value} {below : List Frame} {meth : Method} {c : Code} {D : va_G} {A : Nat → Prop} {ad : Nat → Nat} {ca : Nat → ClassId} (o : z_Sg) (C0 : z_cx z_RMo b_Mo_second 5 none D (z_Mt ca) A p s m args meth c) (q : z_Sg) (x1 : Int32) (x2 : Int32) (h : k_Mo_second_84 x1 x2 q = some o) : ∀ (H : Heap) (locs : List Loc) (ls : Array Slot), z_wd D (z_M ad ca q) A s H locs → lv_has ls 5 [(0, .ref (ad 0)), (1, .int x1), (2, .int x2)] → W p l e (z_rm 9 222) s m args below meth c H locs 0 0 (z_qv below D (z_Mt ca) (z_M ad ca o) A s args) (F0 m 84 ls []) := by
  obtain ⟨hx, hb, hr, hlk, hml, hown, hts, hK, hA⟩ := id C0
  intro H locs ls hw hl
  refine lv_iload_n hx hb d_Mo_second_84 rfl (lv_at hl 1 rfl) ?_
  refine lv_sipush (v := (144 : Int32)) hx hb d_Mo_second_85 (by decide) ?_
  refine lv_icmp_lt (tgt := 130) hx hb d_Mo_second_88 (by decide) (fun c3 => ?_) (fun c3 => ?_)
  · have h := ok_t h c3
    exact w_Mo_second_130 o C0 q x1 x2 h H locs ls hw (lv_sub hl [0, 1, 2] rfl)
  · have h := ok_f h c3
    refine lv_iload_n hx hb d_Mo_second_91 rfl (lv_at hl 1 rfl) ?_
    refine lv_sipush (v := (159 : Int32)) hx hb d_Mo_second_92 (by decide) ?_
    refine lv_icmp_gt (tgt := 130) hx hb d_Mo_second_95 (by decide) (fun c42 => ?_) (fun c42 => ?_)
    · have h := ok_t h c42
      exact w_Mo_second_130 o C0 q x1 x2 h H locs ls hw (lv_sub hl [0, 1, 2] rfl)
    · have h := ok_f h c42
      refine lv_aload_n hx hb d_Mo_second_98 rfl (lv_at hl 0 rfl) ?_
      obtain ⟨r43, er43, h⟩ := ok_b h
      refine z_vv (rest := []) C0 hw (c_Mo_takeOperand q r43 er43) mw_Mo_takeOperand ml_Mo_335 0 rfl ⟨Nat.le_of_ble_eq_true rfl, Nat.le_of_ble_eq_true rfl⟩ ⟨Nat.le_refl 0, Nat.le_refl 0⟩ rfl hl.1 rfl (Nat.le_of_ble_eq_true rfl) d_Mo_second_99 (fun H locs hw => ?_)
      refine lv_aload_n hx hb d_Mo_second_102 rfl (lv_at hl 0 rfl) ?_
      refine lv_iconst (v := (1 : Int32)) hx hb d_Mo_second_103 (by decide) ?_
      refine lv_iconst (v := (1 : Int32)) hx hb d_Mo_second_104 (by decide) ?_
      obtain ⟨r44, er44, h⟩ := ok_b h
      refine z_vl (rest := []) C0 hw (c_Mo_e (1 : Int32) (1 : Int32) r43 r44 er44) mw_Mo_e ml_Mo_338 0 rfl ⟨Nat.le_of_ble_eq_true rfl, Nat.le_of_ble_eq_true rfl⟩ ⟨Nat.le_refl 0, Nat.le_refl 0⟩ rfl hl.1 rfl (Nat.le_of_ble_eq_true rfl) d_Mo_second_105 (fun H locs hw => ?_)
      refine lv_pop2_2 hx hb d_Mo_second_108 rfl ?_
      refine lv_aload_n hx hb d_Mo_second_109 rfl (lv_at hl 0 rfl) ?_
      refine lv_iconst (v := (1 : Int32)) hx hb d_Mo_second_110 (by decide) ?_
      refine lv_aload_n hx hb d_Mo_second_111 rfl (lv_at hl 0 rfl) ?_
      refine lv_iload_n hx hb d_Mo_second_112 rfl (lv_at hl 1 rfl) ?_
      obtain ⟨r45, er45, h⟩ := ok_b h
      refine z_vi (rest := [.int (1 : Int32), .ref (ad 0)]) C0 hw (c_Mo_holds x1 r44.2 r45 er45) mw_Mo_holds ml_Mo_252 0 rfl ⟨Nat.le_of_ble_eq_true rfl, Nat.le_of_ble_eq_true rfl⟩ ⟨Nat.le_refl 0, Nat.le_refl 0⟩ rfl hl.1 rfl (Nat.le_of_ble_eq_true rfl) d_Mo_second_113 (fun H locs hw => ?_)
      refine lv_if_eq (tgt := 123) hx hb d_Mo_second_116 (by decide) (fun c46 => ?_) (fun c46 => ?_)
      · have h := ok_t h c46
        refine lv_lconst (v := (0 : Int64)) hx hb d_Mo_second_123 (by decide) ?_
        exact w_Mo_second_124 o C0 r44.2 (1 : Int32) (0 : Int64) h H locs ls hw (lv_sub hl [] rfl)
      · have h := ok_f h c46
        refine lv_lconst (v := (1 : Int64)) hx hb d_Mo_second_119 (by decide) ?_
        refine lv_goto (tgt := 124) hx hb d_Mo_second_120 (by decide) ?_
        exact w_Mo_second_124 o C0 r44.2 (1 : Int32) (1 : Int64) h H locs ls hw (lv_sub hl [] rfl)
set_option maxHeartbeats 4000000 in
set_option maxRecDepth 100000 in
theorem w_Mo_second_57 {p : Program} {l : Launch} {e : Env} {s : State} {m : MethodId} {args : Array Value} {below : List Frame} {meth : Method} {c : Code} {D : va_G} {A : Nat → Prop} {ad : Nat → Nat} {ca : Nat → ClassId} (o : z_Sg) (C0 : z_cx z_RMo b_Mo_second 5 none D (z_Mt ca) A p s m args meth c) (q : z_Sg) (x1 : Int32) (x2 : Int32) (h : k_Mo_second_57 x1 x2 q = some o) : ∀ (H : Heap) (locs : List Loc) (ls : Array Slot), z_wd D (z_M ad ca q) A s H locs → lv_has ls 5 [(0, .ref (ad 0)), (1, .int x1), (2, .int x2)] → W p l e (z_rm 9 222) s m args below meth c H locs 0 0 (z_qv below D (z_Mt ca) (z_M ad ca o) A s args) (F0 m 57 ls []) := by
  obtain ⟨hx, hb, hr, hlk, hml, hown, hts, hK, hA⟩ := id C0
  intro H locs ls hw hl
  refine lv_iload_n hx hb d_Mo_second_57 rfl (lv_at hl 1 rfl) ?_
  refine lv_sipush (v := (128 : Int32)) hx hb d_Mo_second_58 (by decide) ?_
  refine lv_icmp_lt (tgt := 84) hx hb d_Mo_second_61 (by decide) (fun c2 => ?_) (fun c2 => ?_)
  · have h := ok_t h c2
    exact w_Mo_second_84 o C0 q x1 x2 h H locs ls hw (lv_sub hl [0, 1, 2] rfl)
  · have h := ok_f h c2
    refine lv_iload_n hx hb d_Mo_second_64 rfl (lv_at hl 1 rfl) ?_
    refine lv_sipush (v := (143 : Int32)) hx hb d_Mo_second_65 (by decide) ?_
    refine lv_icmp_gt (tgt := 84) hx hb d_Mo_second_68 (by decide) (fun c48 => ?_) (fun c48 => ?_)
    · have h := ok_t h c48
      exact w_Mo_second_84 o C0 q x1 x2 h H locs ls hw (lv_sub hl [0, 1, 2] rfl)
    · have h := ok_f h c48
      refine lv_aload_n hx hb d_Mo_second_71 rfl (lv_at hl 0 rfl) ?_
      refine lv_aload_n hx hb d_Mo_second_72 rfl (lv_at hl 0 rfl) ?_
      refine lv_iload_n hx hb d_Mo_second_73 rfl (lv_at hl 1 rfl) ?_
      obtain ⟨r49, er49, h⟩ := ok_b h
      refine z_vi (rest := [.ref (ad 0)]) C0 hw (c_Mo_holds x1 q r49 er49) mw_Mo_holds ml_Mo_252 0 rfl ⟨Nat.le_of_ble_eq_true rfl, Nat.le_of_ble_eq_true rfl⟩ ⟨Nat.le_refl 0, Nat.le_refl 0⟩ rfl hl.1 rfl (Nat.le_of_ble_eq_true rfl) d_Mo_second_74 (fun H locs hw => ?_)
      refine lv_iconst (v := (4 : Int32)) hx hb d_Mo_second_77 (by decide) ?_
      obtain ⟨r50, er50, h⟩ := ok_b h
      refine z_vv (rest := []) C0 hw (c_Mo_branch r49 (4 : Int32) q r50 er50) mw_Mo_branch ml_Mo_255 0 rfl ⟨Nat.le_of_ble_eq_true rfl, Nat.le_of_ble_eq_true rfl⟩ ⟨Nat.le_refl 0, Nat.le_refl 0⟩ rfl hl.1 rfl (Nat.le_of_ble_eq_true rfl) d_Mo_second_78 (fun H locs hw => ?_)
      refine lv_goto (tgt := 402) hx hb d_Mo_second_81 (by decide) ?_
      exact w_Mo_second_402 o C0 r50 h H locs ls hw (lv_sub hl [] rfl)
set_option maxHeartbeats 4000000 in
set_option maxRecDepth 100000 in
theorem w_Mo_second_51 {p : Program} {l : Launch} {e : Env} {s : State} {m : MethodId} {args : Array Value} {below : List Frame} {meth : Method} {c : Code} {D : va_G} {A : Nat → Prop} {ad : Nat → Nat} {ca : Nat → ClassId} (o : z_Sg) (C0 : z_cx z_RMo b_Mo_second 5 none D (z_Mt ca) A p s m args meth c) (q : z_Sg) (t1 : Int32) (t2 : Int64) (h : k_Mo_second_51 t1 t2 q = some o) : ∀ (H : Heap) (locs : List Loc) (ls : Array Slot), z_wd D (z_M ad ca q) A s H locs → lv_has ls 5 [] → W p l e (z_rm 9 222) s m args below meth c H locs 0 0 (z_qv below D (z_Mt ca) (z_M ad ca o) A s args) (F0 m 51 ls [.long t2, .int t1, .ref (ad 0)]) := by
  obtain ⟨hx, hb, hr, hlk, hml, hown, hts, hK, hA⟩ := id C0
  intro H locs ls hw hl
  obtain ⟨r60, er60, h⟩ := ok_b h
  refine z_vv (rest := []) C0 hw (c_Mo_setG t1 t2 q r60 er60) mw_Mo_setG ml_Mo_344 0 rfl ⟨Nat.le_of_ble_eq_true rfl, Nat.le_of_ble_eq_true rfl⟩ ⟨Nat.le_refl 0, Nat.le_refl 0⟩ rfl hl.1 rfl (Nat.le_of_ble_eq_true rfl) d_Mo_second_51 (fun H locs hw => ?_)
  refine lv_goto (tgt := 402) hx hb d_Mo_second_54 (by decide) ?_
  exact w_Mo_second_402 o C0 r60 h H locs ls hw (lv_sub hl [] rfl)
set_option maxHeartbeats 4000000 in
set_option maxRecDepth 100000 in
theorem c_Mo_second {l : Launch} {D : va_G} {ad : Nat → Nat} {ca : Nat → ClassId} (x1 : Int32) (x2 : Int32) (q : z_Sg) (o : z_Sg) (h : f_Mo_second x1 x2 q = some o) : z_cv l y_Mo_second b_Mo_second 5 none 9 222 D (z_Mt ca) (z_M ad ca q) (z_M ad ca o) [.ref (ad 0), .int x1, .int x2] := by
  refine z_cv_of (own := z_RMo) (by decide) rfl ?_
  intro p e s m below meth c A C0 hw
  obtain ⟨hx, hb, hr, hlk, hml, hown, hts, hK, hA⟩ := id C0
  generalize hH : s.heap = H at hw ⊢
  generalize hlo : ([] : List Loc) = locs at hw ⊢
  refine z_entry (lv := [(0, .ref (ad 0)), (1, .int x1), (2, .int x2)]) (Nat.le_of_ble_eq_true rfl) rfl (fun ls hl => ?_)
  unfold f_Mo_second at h
  refine lv_iload_n hx hb d_Mo_second_0 rfl (lv_at hl 1 rfl) ?_
  refine lv_bipush (v := (64 : Int32)) hx hb d_Mo_second_1 (by decide) ?_
  refine lv_icmp_lt (tgt := 57) hx hb d_Mo_second_3 (by decide) (fun c1 => ?_) (fun c1 => ?_)
  · have h := ok_t h c1
    exact w_Mo_second_57 o C0 q x1 x2 h H locs ls hw (lv_sub hl [0, 1, 2] rfl)
  · have h := ok_f h c1
    refine lv_iload_n hx hb d_Mo_second_6 rfl (lv_at hl 1 rfl) ?_
    refine lv_bipush (v := (79 : Int32)) hx hb d_Mo_second_7 (by decide) ?_
    refine lv_icmp_gt (tgt := 57) hx hb d_Mo_second_9 (by decide) (fun c51 => ?_) (fun c51 => ?_)
    · have h := ok_t h c51
      exact w_Mo_second_57 o C0 q x1 x2 h H locs ls hw (lv_sub hl [0, 1, 2] rfl)
    · have h := ok_f h c51
      refine lv_aload_n hx hb d_Mo_second_12 rfl (lv_at hl 0 rfl) ?_
      obtain ⟨r52, er52, h⟩ := ok_b h
      refine z_vv (rest := []) C0 hw (c_Mo_takeOperand q r52 er52) mw_Mo_takeOperand ml_Mo_335 0 rfl ⟨Nat.le_of_ble_eq_true rfl, Nat.le_of_ble_eq_true rfl⟩ ⟨Nat.le_refl 0, Nat.le_refl 0⟩ rfl hl.1 rfl (Nat.le_of_ble_eq_true rfl) d_Mo_second_13 (fun H locs hw => ?_)
      refine lv_aload_n hx hb d_Mo_second_16 rfl (lv_at hl 0 rfl) ?_
      refine lv_aload_n hx hb d_Mo_second_17 rfl (lv_at hl 0 rfl) ?_
      obtain ⟨r53, er53, h⟩ := ok_b h
      refine z_vi (rest := [.ref (ad 0)]) C0 hw (c_Mo_wide r52 r53 er53) mw_Mo_wide ml_Mo_235 0 rfl ⟨Nat.le_of_ble_eq_true rfl, Nat.le_of_ble_eq_true rfl⟩ ⟨Nat.le_refl 0, Nat.le_refl 0⟩ rfl hl.1 rfl (Nat.le_of_ble_eq_true rfl) d_Mo_second_18 (fun H locs hw => ?_)
      refine lv_iconst (v := (0 : Int32)) hx hb d_Mo_second_21 (by decide) ?_
      obtain ⟨r54, er54, h⟩ := ok_b h
      refine z_vl (rest := []) C0 hw (c_Mo_e r53 (0 : Int32) r52 r54 er54) mw_Mo_e ml_Mo_338 0 rfl ⟨Nat.le_of_ble_eq_true rfl, Nat.le_of_ble_eq_true rfl⟩ ⟨Nat.le_refl 0, Nat.le_refl 0⟩ rfl hl.1 rfl (Nat.le_of_ble_eq_true rfl) d_Mo_second_22 (fun H locs hw => ?_)
      refine lv_lstore_n (lv' := [(3, .long r54.1), (0, .ref (ad 0)), (1, .int x1), (2, .int x2)]) hx hb d_Mo_second_25 rfl hl (by decide) rfl (fun ls hl => ?_)
      refine lv_aload_n hx hb d_Mo_second_26 rfl (lv_at hl 1 rfl) ?_
      refine lv_aload_n hx hb d_Mo_second_27 rfl (lv_at hl 1 rfl) ?_
      obtain ⟨r55, er55, h⟩ := ok_b h
      refine z_vi (rest := [.ref (ad 0)]) C0 hw (c_Mo_wide r54.2 r55 er55) mw_Mo_wide ml_Mo_235 0 rfl ⟨Nat.le_of_ble_eq_true rfl, Nat.le_of_ble_eq_true rfl⟩ ⟨Nat.le_refl 0, Nat.le_refl 0⟩ rfl hl.1 rfl (Nat.le_of_ble_eq_true rfl) d_Mo_second_28 (fun H locs hw => ?_)
      refine lv_aload_n hx hb d_Mo_second_31 rfl (lv_at hl 1 rfl) ?_
      refine lv_iload_n hx hb d_Mo_second_32 rfl (lv_at hl 2 rfl) ?_
      obtain ⟨r56, er56, h⟩ := ok_b h
      refine z_vi (rest := [.int r55, .ref (ad 0)]) C0 hw (c_Mo_holds x1 r54.2 r56 er56) mw_Mo_holds ml_Mo_252 0 rfl ⟨Nat.le_of_ble_eq_true rfl, Nat.le_of_ble_eq_true rfl⟩ ⟨Nat.le_refl 0, Nat.le_refl 0⟩ rfl hl.1 rfl (Nat.le_of_ble_eq_true rfl) d_Mo_second_33 (fun H locs hw => ?_)
      refine lv_if_eq (tgt := 43) hx hb d_Mo_second_36 (by decide) (fun c57 => ?_) (fun c57 => ?_)
      · have h := ok_t h c57
        refine lv_aload_n hx hb d_Mo_second_43 rfl (lv_at hl 1 rfl) ?_
        refine lv_aload_n hx hb d_Mo_second_44 rfl (lv_at hl 1 rfl) ?_
        obtain ⟨r58, er58, h⟩ := ok_b h
        refine z_vi (rest := [.ref (ad 0), .int r55, .ref (ad 0)]) C0 hw (c_Mo_wide r54.2 r58 er58) mw_Mo_wide ml_Mo_235 0 rfl ⟨Nat.le_of_ble_eq_true rfl, Nat.le_of_ble_eq_true rfl⟩ ⟨Nat.le_refl 0, Nat.le_refl 0⟩ rfl hl.1 rfl (Nat.le_of_ble_eq_true rfl) d_Mo_second_45 (fun H locs hw => ?_)
        obtain ⟨r59, er59, h⟩ := ok_b h
        refine z_vl (rest := [.int r55, .ref (ad 0)]) C0 hw (c_Mo_g r58 r54.2 r59 er59) mw_Mo_g ml_Mo_341 0 rfl ⟨Nat.le_of_ble_eq_true rfl, Nat.le_of_ble_eq_true rfl⟩ ⟨Nat.le_refl 0, Nat.le_refl 0⟩ rfl hl.1 rfl (Nat.le_of_ble_eq_true rfl) d_Mo_second_48 (fun H locs hw => ?_)
        exact w_Mo_second_51 o C0 r54.2 r55 r59 h H locs ls hw (lv_sub hl [] rfl)
      · have h := ok_f h c57
        refine lv_lload_n hx hb d_Mo_second_39 rfl (lv_at hl 0 rfl) ?_
        refine lv_goto (tgt := 51) hx hb d_Mo_second_40 (by decide) ?_
        exact w_Mo_second_51 o C0 r54.2 r55 r54.1 h H locs ls hw (lv_sub hl [] rfl)
