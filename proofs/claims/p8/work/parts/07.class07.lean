def k_On_execute_130 (q : z_Sg) : Option (Int32 × z_Sg) :=
  (f_On_executeByReg q).bind (fun r11 => some (r11.1, r11.2))
def k_On_execute_223 (q : z_Sg) : Option (Int32 × z_Sg) :=
  some ((-1 : Int32), q)
def k_On_execute_215 (q : z_Sg) : Option (Int32 × z_Sg) :=
  (f_On_sizeByOpcode q).bind (fun r15 => (f_On_executeSingle r15 q).bind (fun r16 => k_On_execute_223 r16))
def f_On_execute (q : z_Sg) : Option (Int32 × z_Sg) :=
  if ((z_gI q 11) &&& (-8 : Int32)) = (144 : Int32) then ((f_On_changePlacesWithA q).bind (fun r2 => some ((-1 : Int32), r2))) else (if ((z_gI q 11) &&& (-8 : Int32)) = (176 : Int32) then ((f_De_registerO q).bind (fun r4 => (f_Op_putPart r4 (z_gL q 9) (1 : Int32) q).bind (fun r5 => some ((-1 : Int32), r5)))) else (if ((z_gI q 11) &&& (-8 : Int32)) = (184 : Int32) then ((f_De_registerO q).bind (fun r7 => (f_De_sizeV q).bind (fun r8 => (f_Op_putPart r7 (z_gL q 9) r8 q).bind (fun r9 => some ((-1 : Int32), r9))))) else (if (z_gI q 11) = (246 : Int32) then (k_On_execute_130 q) else (if (z_gI q 11) = (247 : Int32) then (k_On_execute_130 q) else (if (64 : Int32) ≤ (z_gI q 11) then (if (z_gI q 11) < (128 : Int32) then (k_On_execute_215 q) else (if (131 : Int32) < (z_gI q 11) then (k_On_execute_215 q) else ((f_On_combine (z_gI q 13) (3 : Int32) q).bind (fun r18 => k_On_execute_223 r18)))) else ((f_On_combine ((z_gI q 11) >>> ((3 : Int32) &&& 31)) (((z_gI q 11) >>> ((1 : Int32) &&& 31)) &&& (3 : Int32)) q).bind (fun r19 => k_On_execute_223 r19)))))))
set_option maxHeartbeats 4000000 in
set_option maxRecDepth 100000 in
theorem w_On_execute_130 {p : Program} {l : Launch} {e : Env} {s : State} {m : MethodId} {args : Array Value} {below : List Frame} {meth : Method} {c : Code} {D : va_G} {A : Nat → Prop} {ad : Nat → Nat} {ca : Nat → ClassId} (o : (Int32 × z_Sg)) (C0 : z_cx z_ROn b_On_execute 1 (some .int) D (z_Kt ca) A p s m args meth c) (q : z_Sg) (h : k_On_execute_130 q = some o) : ∀ (H : Heap) (locs : List Loc) (ls : Array Slot), z_wd D (z_K ad ca q) A s H locs → lv_has ls 1 [(0, .ref (ad 19))] → W p l e (z_rm 5 145) s m args below meth c H locs 0 0 (z_qi below D (z_Kt ca) (z_K ad ca o.2) A s args o.1) (F0 m 130 ls []) := by
  obtain ⟨hx, hb, hr, hlk, hml, hown, hts, hK, hA⟩ := id C0
  intro H locs ls hw hl
  refine lv_aload_n hx hb d_On_execute_130 rfl (lv_at hl 0 rfl) ?_
  obtain ⟨r11, er11, h⟩ := ok_b h
  refine z_vi (rest := []) C0 hw (c_On_executeByReg q r11 er11) mw_On_executeByReg ml_On_57 19 rfl ⟨Nat.le_of_ble_eq_true rfl, Nat.le_of_ble_eq_true rfl⟩ ⟨Nat.le_refl 0, Nat.le_refl 0⟩ rfl hl.1 rfl (Nat.le_of_ble_eq_true rfl) d_On_execute_131 (fun H locs hw => ?_)
  have ho := Option.some.inj h
  subst ho
  exact z_rti C0 hw d_On_execute_134
set_option maxHeartbeats 4000000 in
set_option maxRecDepth 100000 in
theorem w_On_execute_223 {p : Program} {l : Launch} {e : Env} {s : State} {m : MethodId} {args : Array Value} {below : List Frame} {meth : Method} {c : Code} {D : va_G} {A : Nat → Prop} {ad : Nat → Nat} {ca : Nat → ClassId} (o : (Int32 × z_Sg)) (C0 : z_cx z_ROn b_On_execute 1 (some .int) D (z_Kt ca) A p s m args meth c) (q : z_Sg) (h : k_On_execute_223 q = some o) : ∀ (H : Heap) (locs : List Loc) (ls : Array Slot), z_wd D (z_K ad ca q) A s H locs → lv_has ls 1 [] → W p l e (z_rm 5 145) s m args below meth c H locs 0 0 (z_qi below D (z_Kt ca) (z_K ad ca o.2) A s args o.1) (F0 m 223 ls []) := by
  obtain ⟨hx, hb, hr, hlk, hml, hown, hts, hK, hA⟩ := id C0
  intro H locs ls hw hl
  refine lv_iconst (v := (-1 : Int32)) hx hb d_On_execute_223 (by decide) ?_
  have ho := Option.some.inj h
  subst ho
  exact z_rti C0 hw d_On_execute_224
set_option maxHeartbeats 4000000 in
set_option maxRecDepth 100000 in
theorem w_On_execute_215 {p : Program} {l : Launch} {e : Env} {s : State} {m : MethodId} {args : Array Value} {below : List Frame} {meth : Method} {c : Code} {D : va_G} {A : Nat → Prop} {ad : Nat → Nat} {ca : Nat → ClassId} (o : (Int32 × z_Sg)) (C0 : z_cx z_ROn b_On_execute 1 (some .int) D (z_Kt ca) A p s m args meth c) (q : z_Sg) (h : k_On_execute_215 q = some o) : ∀ (H : Heap) (locs : List Loc) (ls : Array Slot), z_wd D (z_K ad ca q) A s H locs → lv_has ls 1 [(0, .ref (ad 19))] → W p l e (z_rm 5 145) s m args below meth c H locs 0 0 (z_qi below D (z_Kt ca) (z_K ad ca o.2) A s args o.1) (F0 m 215 ls []) := by
  obtain ⟨hx, hb, hr, hlk, hml, hown, hts, hK, hA⟩ := id C0
  intro H locs ls hw hl
  refine lv_aload_n hx hb d_On_execute_215 rfl (lv_at hl 0 rfl) ?_
  refine lv_aload_n hx hb d_On_execute_216 rfl (lv_at hl 0 rfl) ?_
  obtain ⟨r15, er15, h⟩ := ok_b h
  refine z_vi (rest := [.ref (ad 19)]) C0 hw (c_On_sizeByOpcode q r15 er15) mw_On_sizeByOpcode ml_On_67 19 rfl ⟨Nat.le_of_ble_eq_true rfl, Nat.le_of_ble_eq_true rfl⟩ ⟨Nat.le_refl 0, Nat.le_refl 0⟩ rfl hl.1 rfl (Nat.le_of_ble_eq_true rfl) d_On_execute_217 (fun H locs hw => ?_)
  obtain ⟨r16, er16, h⟩ := ok_b h
  refine z_vv (rest := []) C0 hw (c_On_executeSingle r15 q r16 er16) mw_On_executeSingle ml_On_70 19 rfl ⟨Nat.le_of_ble_eq_true rfl, Nat.le_of_ble_eq_true rfl⟩ ⟨Nat.le_refl 0, Nat.le_refl 0⟩ rfl hl.1 rfl (Nat.le_of_ble_eq_true rfl) d_On_execute_220 (fun H locs hw => ?_)
  exact w_On_execute_223 o C0 r16 h H locs ls hw (lv_sub hl [] rfl)
set_option maxHeartbeats 4000000 in
set_option maxRecDepth 100000 in
theorem c_On_execute {l : Launch} {D : va_G} {ad : Nat → Nat} {ca : Nat → ClassId} (q : z_Sg) (o : (Int32 × z_Sg)) (h : f_On_execute q = some o) : z_ci l y_On_execute b_On_execute 1 (some .int) 5 145 D (z_Kt ca) (z_K ad ca q) (z_K ad ca o.2) [.ref (ad 19)] o.1 := by
  refine z_ci_of (own := z_ROn) (by decide) rfl ?_
  intro p e s m below meth c A C0 hw
  obtain ⟨hx, hb, hr, hlk, hml, hown, hts, hK, hA⟩ := id C0
  generalize hH : s.heap = H at hw ⊢
  generalize hlo : ([] : List Loc) = locs at hw ⊢
  refine z_entry (lv := [(0, .ref (ad 19))]) (Nat.le_of_ble_eq_true rfl) rfl (fun ls hl => ?_)
  unfold f_On_execute at h
  refine lv_aload_n hx hb d_On_execute_0 rfl (lv_at hl 0 rfl) ?_
  refine gfK_19_code C0 hw fl_On_15 d_On_execute_1 ?_
  refine gfK_5_opcode C0 hw fl_On_31 d_On_execute_4 ?_
  refine lv_bipush (v := (-8 : Int32)) hx hb d_On_execute_7 (by decide) ?_
  refine lv_iand hx hb d_On_execute_9 ?_
  by_cases c1 : ((z_gI q 11) &&& (-8 : Int32)) = (144 : Int32)
  · have h := ok_t h c1
    refine lv_lookup (off := 34) (tgt := 44) hx hb d_On_execute_10 (by decide) (by rw [c1]; rfl) (by decide) ?_
    refine lv_aload_n hx hb d_On_execute_44 rfl (lv_at hl 0 rfl) ?_
    obtain ⟨r2, er2, h⟩ := ok_b h
    refine z_vv (rest := []) C0 hw (c_On_changePlacesWithA q r2 er2) mw_On_changePlacesWithA ml_On_37 19 rfl ⟨Nat.le_of_ble_eq_true rfl, Nat.le_of_ble_eq_true rfl⟩ ⟨Nat.le_refl 0, Nat.le_refl 0⟩ rfl hl.1 rfl (Nat.le_of_ble_eq_true rfl) d_On_execute_45 (fun H locs hw => ?_)
    refine lv_iconst (v := (-1 : Int32)) hx hb d_On_execute_48 (by decide) ?_
    have ho := Option.some.inj h
    subst ho
    exact z_rti C0 hw d_On_execute_49
  have h := ok_f h c1
  by_cases c3 : ((z_gI q 11) &&& (-8 : Int32)) = (176 : Int32)
  · have h := ok_t h c3
    refine lv_lookup (off := 40) (tgt := 50) hx hb d_On_execute_10 (by decide) (by rw [c3]; rfl) (by decide) ?_
    refine lv_aload_n hx hb d_On_execute_50 rfl (lv_at hl 0 rfl) ?_
    refine gfK_19_operands C0 hw fl_On_19 d_On_execute_51 ?_
    refine lv_aload_n hx hb d_On_execute_54 rfl (lv_at hl 0 rfl) ?_
    refine gfK_19_code C0 hw fl_On_15 d_On_execute_55 ?_
    obtain ⟨r4, er4, h⟩ := ok_b h
    refine z_vi (rest := [.ref (ad 6)]) C0 hw (c_De_registerO q r4 er4) mw_De_registerO ml_On_40 5 rfl ⟨Nat.le_of_ble_eq_true rfl, Nat.le_of_ble_eq_true rfl⟩ ⟨Nat.le_refl 0, Nat.le_refl 0⟩ rfl hl.1 rfl (Nat.le_of_ble_eq_true rfl) d_On_execute_58 (fun H locs hw => ?_)
    refine lv_aload_n hx hb d_On_execute_61 rfl (lv_at hl 0 rfl) ?_
    refine gfK_19_code C0 hw fl_On_15 d_On_execute_62 ?_
    refine gfK_5_number C0 hw fl_On_44 d_On_execute_65 ?_
    refine lv_iconst (v := (1 : Int32)) hx hb d_On_execute_68 (by decide) ?_
    obtain ⟨r5, er5, h⟩ := ok_b h
    refine z_vv (rest := []) C0 hw (c_Op_putPart r4 (z_gL q 9) (1 : Int32) q r5 er5) mw_Op_putPart ml_On_48 6 rfl ⟨Nat.le_of_ble_eq_true rfl, Nat.le_of_ble_eq_true rfl⟩ ⟨Nat.le_refl 0, Nat.le_refl 0⟩ rfl hl.1 rfl (Nat.le_of_ble_eq_true rfl) d_On_execute_69 (fun H locs hw => ?_)
    refine lv_iconst (v := (-1 : Int32)) hx hb d_On_execute_72 (by decide) ?_
    have ho := Option.some.inj h
    subst ho
    exact z_rti C0 hw d_On_execute_73
  have h := ok_f h c3
  by_cases c6 : ((z_gI q 11) &&& (-8 : Int32)) = (184 : Int32)
  · have h := ok_t h c6
    refine lv_lookup (off := 64) (tgt := 74) hx hb d_On_execute_10 (by decide) (by rw [c6]; rfl) (by decide) ?_
    refine lv_aload_n hx hb d_On_execute_74 rfl (lv_at hl 0 rfl) ?_
    refine gfK_19_operands C0 hw fl_On_19 d_On_execute_75 ?_
    refine lv_aload_n hx hb d_On_execute_78 rfl (lv_at hl 0 rfl) ?_
    refine gfK_19_code C0 hw fl_On_15 d_On_execute_79 ?_
    obtain ⟨r7, er7, h⟩ := ok_b h
    refine z_vi (rest := [.ref (ad 6)]) C0 hw (c_De_registerO q r7 er7) mw_De_registerO ml_On_40 5 rfl ⟨Nat.le_of_ble_eq_true rfl, Nat.le_of_ble_eq_true rfl⟩ ⟨Nat.le_refl 0, Nat.le_refl 0⟩ rfl hl.1 rfl (Nat.le_of_ble_eq_true rfl) d_On_execute_82 (fun H locs hw => ?_)
    refine lv_aload_n hx hb d_On_execute_85 rfl (lv_at hl 0 rfl) ?_
    refine gfK_19_code C0 hw fl_On_15 d_On_execute_86 ?_
    refine gfK_5_number C0 hw fl_On_44 d_On_execute_89 ?_
    refine lv_aload_n hx hb d_On_execute_92 rfl (lv_at hl 0 rfl) ?_
    refine gfK_19_code C0 hw fl_On_15 d_On_execute_93 ?_
    obtain ⟨r8, er8, h⟩ := ok_b h
    refine z_vi (rest := [.long (z_gL q 9), .int r7, .ref (ad 6)]) C0 hw (c_De_sizeV q r8 er8) mw_De_sizeV ml_On_54 5 rfl ⟨Nat.le_of_ble_eq_true rfl, Nat.le_of_ble_eq_true rfl⟩ ⟨Nat.le_refl 0, Nat.le_refl 0⟩ rfl hl.1 rfl (Nat.le_of_ble_eq_true rfl) d_On_execute_96 (fun H locs hw => ?_)
    obtain ⟨r9, er9, h⟩ := ok_b h
    refine z_vv (rest := []) C0 hw (c_Op_putPart r7 (z_gL q 9) r8 q r9 er9) mw_Op_putPart ml_On_48 6 rfl ⟨Nat.le_of_ble_eq_true rfl, Nat.le_of_ble_eq_true rfl⟩ ⟨Nat.le_refl 0, Nat.le_refl 0⟩ rfl hl.1 rfl (Nat.le_of_ble_eq_true rfl) d_On_execute_99 (fun H locs hw => ?_)
    refine lv_iconst (v := (-1 : Int32)) hx hb d_On_execute_102 (by decide) ?_
    have ho := Option.some.inj h
    subst ho
    exact z_rti C0 hw d_On_execute_103
  have h := ok_f h c6
  refine lv_lookup (off := 94) (tgt := 104) hx hb d_On_execute_10 (by decide) (by show Op.lookupswitch.offset [(144, 34), (176, 40), (184, 64)] _ _ = _; rw [lv_osw (a := 144) c1 rfl, lv_osw (a := 176) c3 rfl, lv_osw (a := 184) c6 rfl]; rfl) (by decide) ?_
  refine lv_aload_n hx hb d_On_execute_104 rfl (lv_at hl 0 rfl) ?_
  refine gfK_19_code C0 hw fl_On_15 d_On_execute_105 ?_
  refine gfK_5_opcode C0 hw fl_On_31 d_On_execute_108 ?_
  refine lv_sipush (v := (246 : Int32)) hx hb d_On_execute_111 (by decide) ?_
  refine lv_icmp_eq (tgt := 130) hx hb d_On_execute_114 (by decide) (fun c10 => ?_) (fun c10 => ?_)
  · have h := ok_t h c10
    exact w_On_execute_130 o C0 q h H locs ls hw (lv_sub hl [0] rfl)
  · have h := ok_f h c10
    refine lv_aload_n hx hb d_On_execute_117 rfl (lv_at hl 0 rfl) ?_
    refine gfK_19_code C0 hw fl_On_15 d_On_execute_118 ?_
    refine gfK_5_opcode C0 hw fl_On_31 d_On_execute_121 ?_
    refine lv_sipush (v := (247 : Int32)) hx hb d_On_execute_124 (by decide) ?_
    refine lv_icmp_ne (tgt := 135) hx hb d_On_execute_127 (by decide) (fun c12 => ?_) (fun c12 => ?_)
    · have h := ok_f h c12
      refine lv_aload_n hx hb d_On_execute_135 rfl (lv_at hl 0 rfl) ?_
      refine gfK_19_code C0 hw fl_On_15 d_On_execute_136 ?_
      refine gfK_5_opcode C0 hw fl_On_31 d_On_execute_139 ?_
      refine lv_bipush (v := (64 : Int32)) hx hb d_On_execute_142 (by decide) ?_
      refine lv_icmp_ge (tgt := 174) hx hb d_On_execute_144 (by decide) (fun c13 => ?_) (fun c13 => ?_)
      · have h := ok_t h c13
        refine lv_aload_n hx hb d_On_execute_174 rfl (lv_at hl 0 rfl) ?_
        refine gfK_19_code C0 hw fl_On_15 d_On_execute_175 ?_
        refine gfK_5_opcode C0 hw fl_On_31 d_On_execute_178 ?_
        refine lv_sipush (v := (128 : Int32)) hx hb d_On_execute_181 (by decide) ?_
        refine lv_icmp_lt (tgt := 215) hx hb d_On_execute_184 (by decide) (fun c14 => ?_) (fun c14 => ?_)
        · have h := ok_t h c14
          exact w_On_execute_215 o C0 q h H locs ls hw (lv_sub hl [0] rfl)
        · have h := ok_f h c14
          refine lv_aload_n hx hb d_On_execute_187 rfl (lv_at hl 0 rfl) ?_
          refine gfK_19_code C0 hw fl_On_15 d_On_execute_188 ?_
          refine gfK_5_opcode C0 hw fl_On_31 d_On_execute_191 ?_
          refine lv_sipush (v := (131 : Int32)) hx hb d_On_execute_194 (by decide) ?_
          refine lv_icmp_gt (tgt := 215) hx hb d_On_execute_197 (by decide) (fun c17 => ?_) (fun c17 => ?_)
          · have h := ok_t h c17
            exact w_On_execute_215 o C0 q h H locs ls hw (lv_sub hl [0] rfl)
          · have h := ok_f h c17
            refine lv_aload_n hx hb d_On_execute_200 rfl (lv_at hl 0 rfl) ?_
            refine lv_aload_n hx hb d_On_execute_201 rfl (lv_at hl 0 rfl) ?_
            refine gfK_19_code C0 hw fl_On_15 d_On_execute_202 ?_
            refine gfK_5_reg C0 hw fl_On_64 d_On_execute_205 ?_
            refine lv_iconst (v := (3 : Int32)) hx hb d_On_execute_208 (by decide) ?_
            obtain ⟨r18, er18, h⟩ := ok_b h
            refine z_vv (rest := []) C0 hw (c_On_combine (z_gI q 13) (3 : Int32) q r18 er18) mw_On_combine ml_On_60 19 rfl ⟨Nat.le_of_ble_eq_true rfl, Nat.le_of_ble_eq_true rfl⟩ ⟨Nat.le_refl 0, Nat.le_refl 0⟩ rfl hl.1 rfl (Nat.le_of_ble_eq_true rfl) d_On_execute_209 (fun H locs hw => ?_)
            refine lv_goto (tgt := 223) hx hb d_On_execute_212 (by decide) ?_
            exact w_On_execute_223 o C0 r18 h H locs ls hw (lv_sub hl [] rfl)
      · have h := ok_f h c13
        refine lv_aload_n hx hb d_On_execute_147 rfl (lv_at hl 0 rfl) ?_
        refine lv_aload_n hx hb d_On_execute_148 rfl (lv_at hl 0 rfl) ?_
        refine gfK_19_code C0 hw fl_On_15 d_On_execute_149 ?_
        refine gfK_5_opcode C0 hw fl_On_31 d_On_execute_152 ?_
        refine lv_iconst (v := (3 : Int32)) hx hb d_On_execute_155 (by decide) ?_
        refine lv_ishr hx hb d_On_execute_156 ?_
        refine lv_aload_n hx hb d_On_execute_157 rfl (lv_at hl 0 rfl) ?_
        refine gfK_19_code C0 hw fl_On_15 d_On_execute_158 ?_
        refine gfK_5_opcode C0 hw fl_On_31 d_On_execute_161 ?_
        refine lv_iconst (v := (1 : Int32)) hx hb d_On_execute_164 (by decide) ?_
        refine lv_ishr hx hb d_On_execute_165 ?_
        refine lv_iconst (v := (3 : Int32)) hx hb d_On_execute_166 (by decide) ?_
        refine lv_iand hx hb d_On_execute_167 ?_
        obtain ⟨r19, er19, h⟩ := ok_b h
        refine z_vv (rest := []) C0 hw (c_On_combine ((z_gI q 11) >>> ((3 : Int32) &&& 31)) (((z_gI q 11) >>> ((1 : Int32) &&& 31)) &&& (3 : Int32)) q r19 er19) mw_On_combine ml_On_60 19 rfl ⟨Nat.le_of_ble_eq_true rfl, Nat.le_of_ble_eq_true rfl⟩ ⟨Nat.le_refl 0, Nat.le_refl 0⟩ rfl hl.1 rfl (Nat.le_of_ble_eq_true rfl) d_On_execute_168 (fun H locs hw => ?_)
        refine lv_goto (tgt := 223) hx hb d_On_execute_171 (by decide) ?_
        exact w_On_execute_223 o C0 r19 h H locs ls hw (lv_sub hl [] rfl)
    · have h := ok_t h c12
      exact w_On_execute_130 o C0 q h H locs ls hw (lv_sub hl [0] rfl)
def kb_Sp_value_17_4 (ih4 : Int64 × Int32 → Option Int64) (x1 : Int64) (x3 : Int32) (q : z_Sg) : Option Int64 :=
  if (z_gI q 19) ≤ x3 then (some x1) else (if z_bad x3 8 then none else ((f_Pa_byteAt (z_gM q 5 x3.toNatClampNeg) q).bind (fun r3 => z_nm ((x1 ||| (z_lshl (r3.toInt64) ((8 : Int32) * x3)))) (fun n4 => z_nm (x3 + (1 : Int32)) (fun n5 => ih4 (n4, n5))))))
def k_Sp_value_17_4 (x1 : Int64) (x3 : Int32) (q : z_Sg) : Option Int64 := z_lo (fun ih4 a => kb_Sp_value_17_4 ih4 a.1 a.2 q) 2000 (x1, x3)
def f_Sp_value_17 (q : z_Sg) : Option Int64 :=
  k_Sp_value_17_4 (0 : Int64) (0 : Int32) q
set_option maxHeartbeats 4000000 in
set_option maxRecDepth 100000 in
theorem wb_Sp_value_17_4 {p : Program} {l : Launch} {e : Env} {s : State} {m : MethodId} {args : Array Value} {below : List Frame} {meth : Method} {c : Code} {D : va_G} {A : Nat → Prop} {ad : Nat → Nat} {ca : Nat → ClassId} (o : Int64) (C0 : z_cx z_RSp b_Sp_value 4 (some .long) D (z_Kt ca) A p s m args meth c) (q : z_Sg) (ih4 : Int64 × Int32 → Option Int64) (hi4 : ∀ a : Int64 × Int32, ih4 a = some o → ∀ (H : Heap) (locs : List Loc) (ls : Array Slot), z_wd D (z_K ad ca q) A s H locs → lv_has ls 4 [(0, .ref (ad 17)), (1, .long a.1), (3, .int a.2)] → W p l e (z_rm 1 23) s m args below meth c H locs 0 0 (z_ql below D (z_Kt ca) (z_K ad ca q) A s args o) (F0 m 4 ls [])) (x1 : Int64) (x3 : Int32) (h : kb_Sp_value_17_4 ih4 x1 x3 q = some o) : ∀ (H : Heap) (locs : List Loc) (ls : Array Slot), z_wd D (z_K ad ca q) A s H locs → lv_has ls 4 [(0, .ref (ad 17)), (1, .long x1), (3, .int x3)] → W p l e (z_rm 1 23) s m args below meth c H locs 0 0 (z_ql below D (z_Kt ca) (z_K ad ca q) A s args o) (F0 m 4 ls []) := by
  obtain ⟨hx, hb, hr, hlk, hml, hown, hts, hK, hA⟩ := id C0
  intro H locs ls hw hl
  refine lv_iload_n hx hb d_Sp_value_4 rfl (lv_at hl 2 rfl) ?_
  refine lv_aload_n hx hb d_Sp_value_5 rfl (lv_at hl 0 rfl) ?_
  refine gfK_17_length C0 hw fl_Sp_25 d_Sp_value_6 ?_
  refine lv_icmp_ge (tgt := 40) hx hb d_Sp_value_9 (by decide) (fun c1 => ?_) (fun c1 => ?_)
  · have h := ok_t h c1
    refine lv_lload_n hx hb d_Sp_value_40 rfl (lv_at hl 1 rfl) ?_
    have ho := Option.some.inj h
    subst ho
    exact z_rtl C0 hw d_Sp_value_41
  · have h := ok_f h c1
    refine lv_lload_n hx hb d_Sp_value_12 rfl (lv_at hl 1 rfl) ?_
    refine lv_aload_n hx hb d_Sp_value_13 rfl (lv_at hl 0 rfl) ?_
    refine gfK_17_pages C0 hw fl_Sp_15 d_Sp_value_14 ?_
    refine lv_aload_n hx hb d_Sp_value_17 rfl (lv_at hl 0 rfl) ?_
    refine gfK_17_at C0 hw fl_Sp_9 d_Sp_value_18 ?_
    refine lv_iload_n hx hb d_Sp_value_21 rfl (lv_at hl 2 rfl) ?_
    obtain ⟨b2, h⟩ := ok_g h
    refine alK_18 C0 hw b2 d_Sp_value_22 ?_
    obtain ⟨r3, er3, h⟩ := ok_b h
    refine z_vi (rest := [.long x1]) C0 hw (c_Pa_byteAt (z_gM q 5 x3.toNatClampNeg) q r3 er3) mw_Pa_byteAt ml_Sp_41 3 rfl ⟨Nat.le_of_ble_eq_true rfl, Nat.le_of_ble_eq_true rfl⟩ ⟨Nat.le_refl 0, Nat.le_refl 0⟩ rfl hl.1 rfl (Nat.le_of_ble_eq_true rfl) d_Sp_value_23 (fun H locs hw => ?_)
    refine lv_i2l hx hb d_Sp_value_26 rfl ?_
    refine lv_bipush (v := (8 : Int32)) hx hb d_Sp_value_27 (by decide) ?_
    refine lv_iload_n hx hb d_Sp_value_29 rfl (lv_at hl 2 rfl) ?_
    refine lv_imul hx hb d_Sp_value_30 ?_
    refine lv_lshl (v := (z_lshl (r3.toInt64) ((8 : Int32) * x3))) hx hb d_Sp_value_31 rfl ?_
    refine lv_lor hx hb d_Sp_value_32 ?_
    obtain ⟨n4, en4, h⟩ := ok_n h
    refine z_tl en4 ?_
    refine lv_lstore_n (lv' := [(1, .long n4), (0, .ref (ad 17)), (3, .int x3)]) hx hb d_Sp_value_33 rfl hl (by decide) rfl (fun ls hl => ?_)
    obtain ⟨n5, en5, h⟩ := ok_n h
    refine lv_iinc (v := n5) (lv' := [(3, .int n5), (1, .long n4), (0, .ref (ad 17))]) hx hb d_Sp_value_34 hl (k := 2) rfl (by rw [en5]; rfl) (by decide) rfl (fun ls hl => ?_)
    refine lv_goto (tgt := 4) hx hb d_Sp_value_37 (by decide) ?_
    exact hi4 (n4, n5) h H locs ls hw (lv_sub hl [2, 1, 0] rfl)
theorem w_Sp_value_17_4 {p : Program} {l : Launch} {e : Env} {s : State} {m : MethodId} {args : Array Value} {below : List Frame} {meth : Method} {c : Code} {D : va_G} {A : Nat → Prop} {ad : Nat → Nat} {ca : Nat → ClassId} (o : Int64) (C0 : z_cx z_RSp b_Sp_value 4 (some .long) D (z_Kt ca) A p s m args meth c) (q : z_Sg) (x1 : Int64) (x3 : Int32) (h : k_Sp_value_17_4 x1 x3 q = some o) : ∀ (H : Heap) (locs : List Loc) (ls : Array Slot), z_wd D (z_K ad ca q) A s H locs → lv_has ls 4 [(0, .ref (ad 17)), (1, .long x1), (3, .int x3)] → W p l e (z_rm 1 23) s m args below meth c H locs 0 0 (z_ql below D (z_Kt ca) (z_K ad ca q) A s args o) (F0 m 4 ls []) := by
  have key : ∀ (n : Nat) (a : Int64 × Int32), z_lo (fun ih4 a => kb_Sp_value_17_4 ih4 a.1 a.2 q) n a = some o → ∀ (H : Heap) (locs : List Loc) (ls : Array Slot), z_wd D (z_K ad ca q) A s H locs → lv_has ls 4 [(0, .ref (ad 17)), (1, .long a.1), (3, .int a.2)] → W p l e (z_rm 1 23) s m args below meth c H locs 0 0 (z_ql below D (z_Kt ca) (z_K ad ca q) A s args o) (F0 m 4 ls []) := by
    intro n
    induction n with
    | zero => intro a h; cases h
    | succ n ih => exact fun a h => wb_Sp_value_17_4 o C0 q (z_lo (fun ih4 a => kb_Sp_value_17_4 ih4 a.1 a.2 q) n) ih a.1 a.2 h
  exact key 2000 (x1, x3) h
set_option maxHeartbeats 4000000 in
set_option maxRecDepth 100000 in
theorem c_Sp_value_17 {l : Launch} {D : va_G} {ad : Nat → Nat} {ca : Nat → ClassId} (q : z_Sg) (o : Int64) (h : f_Sp_value_17 q = some o) : z_cl l y_Sp_value b_Sp_value 4 (some .long) 1 23 D (z_Kt ca) (z_K ad ca q) (z_K ad ca q) [.ref (ad 17)] o := by
  refine z_cl_of (own := z_RSp) (by decide) rfl ?_
  intro p e s m below meth c A C0 hw
  obtain ⟨hx, hb, hr, hlk, hml, hown, hts, hK, hA⟩ := id C0
  generalize hH : s.heap = H at hw ⊢
  generalize hlo : ([] : List Loc) = locs at hw ⊢
  refine z_entry (lv := [(0, .ref (ad 17))]) (Nat.le_of_ble_eq_true rfl) rfl (fun ls hl => ?_)
  unfold f_Sp_value_17 at h
  refine lv_lconst (v := (0 : Int64)) hx hb d_Sp_value_0 (by decide) ?_
  refine lv_lstore_n (lv' := [(1, .long (0 : Int64)), (0, .ref (ad 17))]) hx hb d_Sp_value_1 rfl hl (by decide) rfl (fun ls hl => ?_)
  refine lv_iconst (v := (0 : Int32)) hx hb d_Sp_value_2 (by decide) ?_
  refine lv_istore_n (lv' := [(3, .int (0 : Int32)), (1, .long (0 : Int64)), (0, .ref (ad 17))]) hx hb d_Sp_value_3 rfl hl (by decide) rfl (fun ls hl => ?_)
  exact w_Sp_value_17_4 o C0 q (0 : Int64) (0 : Int32) h H locs ls hw (lv_sub hl [2, 1, 0] rfl)
def kb_Sp_put_17_2 (ih2 : Int64 × Int32 × z_Sg → Option z_Sg) (x1 : Int64) (x3 : Int32) (q : z_Sg) : Option z_Sg :=
  if (z_gI q 19) ≤ x3 then (some q) else (if z_bad x3 8 then none else ((f_Pa_putByte (z_gM q 5 x3.toNatClampNeg) (z_lushr x1 ((8 : Int32) * x3)) q).bind (fun r3 => z_nm (x3 + (1 : Int32)) (fun n4 => ih2 (x1, n4, r3)))))
def k_Sp_put_17_2 (x1 : Int64) (x3 : Int32) (q : z_Sg) : Option z_Sg := z_lo (fun ih2 a => kb_Sp_put_17_2 ih2 a.1 a.2.1 a.2.2) 2000 (x1, x3, q)
def f_Sp_put_17 (x1 : Int64) (q : z_Sg) : Option z_Sg :=
  k_Sp_put_17_2 x1 (0 : Int32) q
set_option maxHeartbeats 4000000 in
set_option maxRecDepth 100000 in
theorem wb_Sp_put_17_2 {p : Program} {l : Launch} {e : Env} {s : State} {m : MethodId} {args : Array Value} {below : List Frame} {meth : Method} {c : Code} {D : va_G} {A : Nat → Prop} {ad : Nat → Nat} {ca : Nat → ClassId} (o : z_Sg) (C0 : z_cx z_RSp b_Sp_put 4 none D (z_Kt ca) A p s m args meth c) (q : z_Sg) (ih2 : Int64 × Int32 × z_Sg → Option z_Sg) (hi2 : ∀ a : Int64 × Int32 × z_Sg, ih2 a = some o → ∀ (H : Heap) (locs : List Loc) (ls : Array Slot), z_wd D (z_K ad ca a.2.2) A s H locs → lv_has ls 4 [(0, .ref (ad 17)), (1, .long a.1), (3, .int a.2.1)] → W p l e (z_rm 1 26) s m args below meth c H locs 0 0 (z_qv below D (z_Kt ca) (z_K ad ca o) A s args) (F0 m 2 ls [])) (x1 : Int64) (x3 : Int32) (h : kb_Sp_put_17_2 ih2 x1 x3 q = some o) : ∀ (H : Heap) (locs : List Loc) (ls : Array Slot), z_wd D (z_K ad ca q) A s H locs → lv_has ls 4 [(0, .ref (ad 17)), (1, .long x1), (3, .int x3)] → W p l e (z_rm 1 26) s m args below meth c H locs 0 0 (z_qv below D (z_Kt ca) (z_K ad ca o) A s args) (F0 m 2 ls []) := by
  obtain ⟨hx, hb, hr, hlk, hml, hown, hts, hK, hA⟩ := id C0
  intro H locs ls hw hl
  refine lv_iload_n hx hb d_Sp_put_2 rfl (lv_at hl 2 rfl) ?_
  refine lv_aload_n hx hb d_Sp_put_3 rfl (lv_at hl 0 rfl) ?_
  refine gfK_17_length C0 hw fl_Sp_25 d_Sp_put_4 ?_
  refine lv_icmp_ge (tgt := 35) hx hb d_Sp_put_7 (by decide) (fun c1 => ?_) (fun c1 => ?_)
  · have h := ok_t h c1
    have ho := Option.some.inj h
    subst ho
    exact z_rtv C0 hw d_Sp_put_35
  · have h := ok_f h c1
    refine lv_aload_n hx hb d_Sp_put_10 rfl (lv_at hl 0 rfl) ?_
    refine gfK_17_pages C0 hw fl_Sp_15 d_Sp_put_11 ?_
    refine lv_aload_n hx hb d_Sp_put_14 rfl (lv_at hl 0 rfl) ?_
    refine gfK_17_at C0 hw fl_Sp_9 d_Sp_put_15 ?_
    refine lv_iload_n hx hb d_Sp_put_18 rfl (lv_at hl 2 rfl) ?_
    obtain ⟨b2, h⟩ := ok_g h
    refine alK_18 C0 hw b2 d_Sp_put_19 ?_
    refine lv_lload_n hx hb d_Sp_put_20 rfl (lv_at hl 1 rfl) ?_
    refine lv_bipush (v := (8 : Int32)) hx hb d_Sp_put_21 (by decide) ?_
    refine lv_iload_n hx hb d_Sp_put_23 rfl (lv_at hl 2 rfl) ?_
    refine lv_imul hx hb d_Sp_put_24 ?_
    refine lv_lushr (v := (z_lushr x1 ((8 : Int32) * x3))) hx hb d_Sp_put_25 rfl ?_
    obtain ⟨r3, er3, h⟩ := ok_b h
    refine z_vv (rest := []) C0 hw (c_Pa_putByte (z_gM q 5 x3.toNatClampNeg) (z_lushr x1 ((8 : Int32) * x3)) q r3 er3) mw_Pa_putByte ml_Sp_45 3 rfl ⟨Nat.le_of_ble_eq_true rfl, Nat.le_of_ble_eq_true rfl⟩ ⟨Nat.le_refl 0, Nat.le_refl 0⟩ rfl hl.1 rfl (Nat.le_of_ble_eq_true rfl) d_Sp_put_26 (fun H locs hw => ?_)
    obtain ⟨n4, en4, h⟩ := ok_n h
    refine lv_iinc (v := n4) (lv' := [(3, .int n4), (0, .ref (ad 17)), (1, .long x1)]) hx hb d_Sp_put_29 hl (k := 2) rfl (by rw [en4]; rfl) (by decide) rfl (fun ls hl => ?_)
    refine lv_goto (tgt := 2) hx hb d_Sp_put_32 (by decide) ?_
    exact hi2 (x1, n4, r3) h H locs ls hw (lv_sub hl [1, 2, 0] rfl)
theorem w_Sp_put_17_2 {p : Program} {l : Launch} {e : Env} {s : State} {m : MethodId} {args : Array Value} {below : List Frame} {meth : Method} {c : Code} {D : va_G} {A : Nat → Prop} {ad : Nat → Nat} {ca : Nat → ClassId} (o : z_Sg) (C0 : z_cx z_RSp b_Sp_put 4 none D (z_Kt ca) A p s m args meth c) (q : z_Sg) (x1 : Int64) (x3 : Int32) (h : k_Sp_put_17_2 x1 x3 q = some o) : ∀ (H : Heap) (locs : List Loc) (ls : Array Slot), z_wd D (z_K ad ca q) A s H locs → lv_has ls 4 [(0, .ref (ad 17)), (1, .long x1), (3, .int x3)] → W p l e (z_rm 1 26) s m args below meth c H locs 0 0 (z_qv below D (z_Kt ca) (z_K ad ca o) A s args) (F0 m 2 ls []) := by
  have key : ∀ (n : Nat) (a : Int64 × Int32 × z_Sg), z_lo (fun ih2 a => kb_Sp_put_17_2 ih2 a.1 a.2.1 a.2.2) n a = some o → ∀ (H : Heap) (locs : List Loc) (ls : Array Slot), z_wd D (z_K ad ca a.2.2) A s H locs → lv_has ls 4 [(0, .ref (ad 17)), (1, .long a.1), (3, .int a.2.1)] → W p l e (z_rm 1 26) s m args below meth c H locs 0 0 (z_qv below D (z_Kt ca) (z_K ad ca o) A s args) (F0 m 2 ls []) := by
    intro n
    induction n with
    | zero => intro a h; cases h
    | succ n ih => exact fun a h => wb_Sp_put_17_2 o C0 a.2.2 (z_lo (fun ih2 a => kb_Sp_put_17_2 ih2 a.1 a.2.1 a.2.2) n) ih a.1 a.2.1 h
  exact key 2000 (x1, x3, q) h
set_option maxHeartbeats 4000000 in
set_option maxRecDepth 100000 in
theorem c_Sp_put_17 {l : Launch} {D : va_G} {ad : Nat → Nat} {ca : Nat → ClassId} (x1 : Int64) (q : z_Sg) (o : z_Sg) (h : f_Sp_put_17 x1 q = some o) : z_cv l y_Sp_put b_Sp_put 4 none 1 26 D (z_Kt ca) (z_K ad ca q) (z_K ad ca o) [.ref (ad 17), .long x1] := by
  refine z_cv_of (own := z_RSp) (by decide) rfl ?_
  intro p e s m below meth c A C0 hw
  obtain ⟨hx, hb, hr, hlk, hml, hown, hts, hK, hA⟩ := id C0
  generalize hH : s.heap = H at hw ⊢
  generalize hlo : ([] : List Loc) = locs at hw ⊢
  refine z_entry (lv := [(0, .ref (ad 17)), (1, .long x1)]) (Nat.le_of_ble_eq_true rfl) rfl (fun ls hl => ?_)
  unfold f_Sp_put_17 at h
  refine lv_iconst (v := (0 : Int32)) hx hb d_Sp_put_0 (by decide) ?_
  refine lv_istore_n (lv' := [(3, .int (0 : Int32)), (0, .ref (ad 17)), (1, .long x1)]) hx hb d_Sp_put_1 rfl hl (by decide) rfl (fun ls hl => ?_)
  exact w_Sp_put_17_2 o C0 q x1 (0 : Int32) h H locs ls hw (lv_sub hl [1, 2, 0] rfl)
def k_Sr_use_80 (q : z_Sg) : Option z_Sg :=
  some q
def k_Sr_use_36 (x2 : Int64) (x4 : Int32) (q : z_Sg) : Option z_Sg :=
  (f_Sp_value_17 q).bind (fun r2 => (f_Ar_difference x2 r2 (0 : Int64) x4 q).bind (fun r3 => k_Sr_use_80 r3.2))
def f_Sr_use (x1 : Int32) (x2 : Int64) (x4 : Int32) (q : z_Sg) : Option z_Sg :=
  if x1 = (166 : Int32) then (k_Sr_use_36 x2 x4 q) else (if x1 = (172 : Int32) then ((f_Op_putPart (0 : Int32) x2 x4 q).bind (fun r5 => k_Sr_use_80 r5)) else (if x1 = (174 : Int32) then (k_Sr_use_36 x2 x4 q) else ((f_Sp_put_17 x2 q).bind (fun r7 => k_Sr_use_80 r7))))
set_option maxHeartbeats 4000000 in
set_option maxRecDepth 100000 in
theorem w_Sr_use_80 {p : Program} {l : Launch} {e : Env} {s : State} {m : MethodId} {args : Array Value} {below : List Frame} {meth : Method} {c : Code} {D : va_G} {A : Nat → Prop} {ad : Nat → Nat} {ca : Nat → ClassId} (o : z_Sg) (C0 : z_cx z_RSr b_Sr_use 5 none D (z_Kt ca) A p s m args meth c) (q : z_Sg) (h : k_Sr_use_80 q = some o) : ∀ (H : Heap) (locs : List Loc) (ls : Array Slot), z_wd D (z_K ad ca q) A s H locs → lv_has ls 5 [] → W p l e (z_rm 3 86) s m args below meth c H locs 0 0 (z_qv below D (z_Kt ca) (z_K ad ca o) A s args) (F0 m 80 ls []) := by
  obtain ⟨hx, hb, hr, hlk, hml, hown, hts, hK, hA⟩ := id C0
  intro H locs ls hw hl
  have ho := Option.some.inj h
  subst ho
  exact z_rtv C0 hw d_Sr_use_80
set_option maxHeartbeats 4000000 in
set_option maxRecDepth 100000 in
theorem w_Sr_use_36 {p : Program} {l : Launch} {e : Env} {s : State} {m : MethodId} {args : Array Value} {below : List Frame} {meth : Method} {c : Code} {D : va_G} {A : Nat → Prop} {ad : Nat → Nat} {ca : Nat → ClassId} (o : z_Sg) (C0 : z_cx z_RSr b_Sr_use 5 none D (z_Kt ca) A p s m args meth c) (q : z_Sg) (x2 : Int64) (x4 : Int32) (h : k_Sr_use_36 x2 x4 q = some o) : ∀ (H : Heap) (locs : List Loc) (ls : Array Slot), z_wd D (z_K ad ca q) A s H locs → lv_has ls 5 [(0, .ref (ad 14)), (2, .long x2), (4, .int x4)] → W p l e (z_rm 3 86) s m args below meth c H locs 0 0 (z_qv below D (z_Kt ca) (z_K ad ca o) A s args) (F0 m 36 ls []) := by
  obtain ⟨hx, hb, hr, hlk, hml, hown, hts, hK, hA⟩ := id C0
  intro H locs ls hw hl
  refine lv_aload_n hx hb d_Sr_use_36 rfl (lv_at hl 0 rfl) ?_
  refine gfK_14_arithmetic C0 hw fl_Sr_23 d_Sr_use_37 ?_
  refine lv_lload_n hx hb d_Sr_use_40 rfl (lv_at hl 1 rfl) ?_
  refine lv_aload_n hx hb d_Sr_use_41 rfl (lv_at hl 0 rfl) ?_
  refine gfK_14_goal C0 hw fl_Sr_31 d_Sr_use_42 ?_
  obtain ⟨r2, er2, h⟩ := ok_b h
  refine z_vl (rest := [.long x2, .ref (ad 9)]) C0 hw (c_Sp_value_17 q r2 er2) mw_Sp_value ml_Sr_77 17 rfl ⟨Nat.le_of_ble_eq_true rfl, Nat.le_of_ble_eq_true rfl⟩ ⟨Nat.le_refl 0, Nat.le_refl 0⟩ rfl hl.1 rfl (Nat.le_of_ble_eq_true rfl) d_Sr_use_45 (fun H locs hw => ?_)
  refine lv_lconst (v := (0 : Int64)) hx hb d_Sr_use_48 (by decide) ?_
  refine lv_iload hx hb d_Sr_use_49 (lv_at hl 2 rfl) ?_
  obtain ⟨r3, er3, h⟩ := ok_b h
  refine z_vl (rest := []) C0 hw (c_Ar_difference x2 r2 (0 : Int64) x4 q r3 er3) mw_Ar_difference ml_Sr_91 9 rfl ⟨Nat.le_of_ble_eq_true rfl, Nat.le_of_ble_eq_true rfl⟩ ⟨Nat.le_refl 0, Nat.le_refl 0⟩ rfl hl.1 rfl (Nat.le_of_ble_eq_true rfl) d_Sr_use_51 (fun H locs hw => ?_)
  refine lv_pop2_2 hx hb d_Sr_use_54 rfl ?_
  refine lv_goto (tgt := 80) hx hb d_Sr_use_55 (by decide) ?_
  exact w_Sr_use_80 o C0 r3.2 h H locs ls hw (lv_sub hl [] rfl)
set_option maxHeartbeats 4000000 in
set_option maxRecDepth 100000 in
theorem c_Sr_use {l : Launch} {D : va_G} {ad : Nat → Nat} {ca : Nat → ClassId} (x1 : Int32) (x2 : Int64) (x4 : Int32) (q : z_Sg) (o : z_Sg) (h : f_Sr_use x1 x2 x4 q = some o) : z_cv l y_Sr_use b_Sr_use 5 none 3 86 D (z_Kt ca) (z_K ad ca q) (z_K ad ca o) [.ref (ad 14), .int x1, .long x2, .int x4] := by
  refine z_cv_of (own := z_RSr) (by decide) rfl ?_
  intro p e s m below meth c A C0 hw
  obtain ⟨hx, hb, hr, hlk, hml, hown, hts, hK, hA⟩ := id C0
  generalize hH : s.heap = H at hw ⊢
  generalize hlo : ([] : List Loc) = locs at hw ⊢
  refine z_entry (lv := [(0, .ref (ad 14)), (1, .int x1), (2, .long x2), (4, .int x4)]) (Nat.le_of_ble_eq_true rfl) rfl (fun ls hl => ?_)
  unfold f_Sr_use at h
  refine lv_iload_n hx hb d_Sr_use_0 rfl (lv_at hl 1 rfl) ?_
  by_cases c1 : x1 = (166 : Int32)
  · have h := ok_t h c1
    refine lv_lookup (off := 35) (tgt := 36) hx hb d_Sr_use_1 (by decide) (by rw [c1]; rfl) (by decide) ?_
    exact w_Sr_use_36 o C0 q x2 x4 h H locs ls hw (lv_sub hl [0, 2, 3] rfl)
  have h := ok_f h c1
  by_cases c4 : x1 = (172 : Int32)
  · have h := ok_t h c4
    refine lv_lookup (off := 57) (tgt := 58) hx hb d_Sr_use_1 (by decide) (by rw [c4]; rfl) (by decide) ?_
    refine lv_aload_n hx hb d_Sr_use_58 rfl (lv_at hl 0 rfl) ?_
    refine gfK_14_operands C0 hw fl_Sr_19 d_Sr_use_59 ?_
    refine lv_iconst (v := (0 : Int32)) hx hb d_Sr_use_62 (by decide) ?_
    refine lv_lload_n hx hb d_Sr_use_63 rfl (lv_at hl 2 rfl) ?_
    refine lv_iload hx hb d_Sr_use_64 (lv_at hl 3 rfl) ?_
    obtain ⟨r5, er5, h⟩ := ok_b h
    refine z_vv (rest := []) C0 hw (c_Op_putPart (0 : Int32) x2 x4 q r5 er5) mw_Op_putPart ml_Sr_97 6 rfl ⟨Nat.le_of_ble_eq_true rfl, Nat.le_of_ble_eq_true rfl⟩ ⟨Nat.le_refl 0, Nat.le_refl 0⟩ rfl hl.1 rfl (Nat.le_of_ble_eq_true rfl) d_Sr_use_66 (fun H locs hw => ?_)
    refine lv_goto (tgt := 80) hx hb d_Sr_use_69 (by decide) ?_
    exact w_Sr_use_80 o C0 r5 h H locs ls hw (lv_sub hl [] rfl)
  have h := ok_f h c4
  by_cases c6 : x1 = (174 : Int32)
  · have h := ok_t h c6
    refine lv_lookup (off := 35) (tgt := 36) hx hb d_Sr_use_1 (by decide) (by rw [c6]; rfl) (by decide) ?_
    exact w_Sr_use_36 o C0 q x2 x4 h H locs ls hw (lv_sub hl [0, 2, 3] rfl)
  have h := ok_f h c6
  refine lv_lookup (off := 71) (tgt := 72) hx hb d_Sr_use_1 (by decide) (by show Op.lookupswitch.offset [(166, 35), (172, 57), (174, 35)] _ _ = _; rw [lv_osw (a := 166) c1 rfl, lv_osw (a := 172) c4 rfl, lv_osw (a := 174) c6 rfl]; rfl) (by decide) ?_
  refine lv_aload_n hx hb d_Sr_use_72 rfl (lv_at hl 0 rfl) ?_
  refine gfK_14_goal C0 hw fl_Sr_31 d_Sr_use_73 ?_
  refine lv_lload_n hx hb d_Sr_use_76 rfl (lv_at hl 2 rfl) ?_
  obtain ⟨r7, er7, h⟩ := ok_b h
  refine z_vv (rest := []) C0 hw (c_Sp_put_17 x2 q r7 er7) mw_Sp_put ml_Sr_100 17 rfl ⟨Nat.le_of_ble_eq_true rfl, Nat.le_of_ble_eq_true rfl⟩ ⟨Nat.le_refl 0, Nat.le_refl 0⟩ rfl hl.1 rfl (Nat.le_of_ble_eq_true rfl) d_Sr_use_77 (fun H locs hw => ?_)
  exact w_Sr_use_80 o C0 r7 h H locs ls hw (lv_sub hl [] rfl)
def kb_Sp_value_15_4 (ih4 : Int64 × Int32 → Option Int64) (x1 : Int64) (x3 : Int32) (q : z_Sg) : Option Int64 :=
  if (z_gI q 18) ≤ x3 then (some x1) else (if z_bad x3 8 then none else ((f_Pa_byteAt (z_gM q 4 x3.toNatClampNeg) q).bind (fun r3 => z_nm ((x1 ||| (z_lshl (r3.toInt64) ((8 : Int32) * x3)))) (fun n4 => z_nm (x3 + (1 : Int32)) (fun n5 => ih4 (n4, n5))))))
def k_Sp_value_15_4 (x1 : Int64) (x3 : Int32) (q : z_Sg) : Option Int64 := z_lo (fun ih4 a => kb_Sp_value_15_4 ih4 a.1 a.2 q) 2000 (x1, x3)
def f_Sp_value_15 (q : z_Sg) : Option Int64 :=
  k_Sp_value_15_4 (0 : Int64) (0 : Int32) q
set_option maxHeartbeats 4000000 in
set_option maxRecDepth 100000 in
theorem wb_Sp_value_15_4 {p : Program} {l : Launch} {e : Env} {s : State} {m : MethodId} {args : Array Value} {below : List Frame} {meth : Method} {c : Code} {D : va_G} {A : Nat → Prop} {ad : Nat → Nat} {ca : Nat → ClassId} (o : Int64) (C0 : z_cx z_RSp b_Sp_value 4 (some .long) D (z_Kt ca) A p s m args meth c) (q : z_Sg) (ih4 : Int64 × Int32 → Option Int64) (hi4 : ∀ a : Int64 × Int32, ih4 a = some o → ∀ (H : Heap) (locs : List Loc) (ls : Array Slot), z_wd D (z_K ad ca q) A s H locs → lv_has ls 4 [(0, .ref (ad 15)), (1, .long a.1), (3, .int a.2)] → W p l e (z_rm 1 23) s m args below meth c H locs 0 0 (z_ql below D (z_Kt ca) (z_K ad ca q) A s args o) (F0 m 4 ls [])) (x1 : Int64) (x3 : Int32) (h : kb_Sp_value_15_4 ih4 x1 x3 q = some o) : ∀ (H : Heap) (locs : List Loc) (ls : Array Slot), z_wd D (z_K ad ca q) A s H locs → lv_has ls 4 [(0, .ref (ad 15)), (1, .long x1), (3, .int x3)] → W p l e (z_rm 1 23) s m args below meth c H locs 0 0 (z_ql below D (z_Kt ca) (z_K ad ca q) A s args o) (F0 m 4 ls []) := by
  obtain ⟨hx, hb, hr, hlk, hml, hown, hts, hK, hA⟩ := id C0
  intro H locs ls hw hl
  refine lv_iload_n hx hb d_Sp_value_4 rfl (lv_at hl 2 rfl) ?_
  refine lv_aload_n hx hb d_Sp_value_5 rfl (lv_at hl 0 rfl) ?_
  refine gfK_15_length C0 hw fl_Sp_25 d_Sp_value_6 ?_
  refine lv_icmp_ge (tgt := 40) hx hb d_Sp_value_9 (by decide) (fun c1 => ?_) (fun c1 => ?_)
  · have h := ok_t h c1
    refine lv_lload_n hx hb d_Sp_value_40 rfl (lv_at hl 1 rfl) ?_
    have ho := Option.some.inj h
    subst ho
    exact z_rtl C0 hw d_Sp_value_41
  · have h := ok_f h c1
    refine lv_lload_n hx hb d_Sp_value_12 rfl (lv_at hl 1 rfl) ?_
    refine lv_aload_n hx hb d_Sp_value_13 rfl (lv_at hl 0 rfl) ?_
    refine gfK_15_pages C0 hw fl_Sp_15 d_Sp_value_14 ?_
    refine lv_aload_n hx hb d_Sp_value_17 rfl (lv_at hl 0 rfl) ?_
    refine gfK_15_at C0 hw fl_Sp_9 d_Sp_value_18 ?_
    refine lv_iload_n hx hb d_Sp_value_21 rfl (lv_at hl 2 rfl) ?_
    obtain ⟨b2, h⟩ := ok_g h
    refine alK_16 C0 hw b2 d_Sp_value_22 ?_
    obtain ⟨r3, er3, h⟩ := ok_b h
    refine z_vi (rest := [.long x1]) C0 hw (c_Pa_byteAt (z_gM q 4 x3.toNatClampNeg) q r3 er3) mw_Pa_byteAt ml_Sp_41 3 rfl ⟨Nat.le_of_ble_eq_true rfl, Nat.le_of_ble_eq_true rfl⟩ ⟨Nat.le_refl 0, Nat.le_refl 0⟩ rfl hl.1 rfl (Nat.le_of_ble_eq_true rfl) d_Sp_value_23 (fun H locs hw => ?_)
    refine lv_i2l hx hb d_Sp_value_26 rfl ?_
    refine lv_bipush (v := (8 : Int32)) hx hb d_Sp_value_27 (by decide) ?_
    refine lv_iload_n hx hb d_Sp_value_29 rfl (lv_at hl 2 rfl) ?_
    refine lv_imul hx hb d_Sp_value_30 ?_
    refine lv_lshl (v := (z_lshl (r3.toInt64) ((8 : Int32) * x3))) hx hb d_Sp_value_31 rfl ?_
    refine lv_lor hx hb d_Sp_value_32 ?_
    obtain ⟨n4, en4, h⟩ := ok_n h
    refine z_tl en4 ?_
    refine lv_lstore_n (lv' := [(1, .long n4), (0, .ref (ad 15)), (3, .int x3)]) hx hb d_Sp_value_33 rfl hl (by decide) rfl (fun ls hl => ?_)
    obtain ⟨n5, en5, h⟩ := ok_n h
    refine lv_iinc (v := n5) (lv' := [(3, .int n5), (1, .long n4), (0, .ref (ad 15))]) hx hb d_Sp_value_34 hl (k := 2) rfl (by rw [en5]; rfl) (by decide) rfl (fun ls hl => ?_)
    refine lv_goto (tgt := 4) hx hb d_Sp_value_37 (by decide) ?_
    exact hi4 (n4, n5) h H locs ls hw (lv_sub hl [2, 1, 0] rfl)
theorem w_Sp_value_15_4 {p : Program} {l : Launch} {e : Env} {s : State} {m : MethodId} {args : Array Value} {below : List Frame} {meth : Method} {c : Code} {D : va_G} {A : Nat → Prop} {ad : Nat → Nat} {ca : Nat → ClassId} (o : Int64) (C0 : z_cx z_RSp b_Sp_value 4 (some .long) D (z_Kt ca) A p s m args meth c) (q : z_Sg) (x1 : Int64) (x3 : Int32) (h : k_Sp_value_15_4 x1 x3 q = some o) : ∀ (H : Heap) (locs : List Loc) (ls : Array Slot), z_wd D (z_K ad ca q) A s H locs → lv_has ls 4 [(0, .ref (ad 15)), (1, .long x1), (3, .int x3)] → W p l e (z_rm 1 23) s m args below meth c H locs 0 0 (z_ql below D (z_Kt ca) (z_K ad ca q) A s args o) (F0 m 4 ls []) := by
  have key : ∀ (n : Nat) (a : Int64 × Int32), z_lo (fun ih4 a => kb_Sp_value_15_4 ih4 a.1 a.2 q) n a = some o → ∀ (H : Heap) (locs : List Loc) (ls : Array Slot), z_wd D (z_K ad ca q) A s H locs → lv_has ls 4 [(0, .ref (ad 15)), (1, .long a.1), (3, .int a.2)] → W p l e (z_rm 1 23) s m args below meth c H locs 0 0 (z_ql below D (z_Kt ca) (z_K ad ca q) A s args o) (F0 m 4 ls []) := by
    intro n
    induction n with
    | zero => intro a h; cases h
    | succ n ih => exact fun a h => wb_Sp_value_15_4 o C0 q (z_lo (fun ih4 a => kb_Sp_value_15_4 ih4 a.1 a.2 q) n) ih a.1 a.2 h
  exact key 2000 (x1, x3) h
set_option maxHeartbeats 4000000 in
set_option maxRecDepth 100000 in
theorem c_Sp_value_15 {l : Launch} {D : va_G} {ad : Nat → Nat} {ca : Nat → ClassId} (q : z_Sg) (o : Int64) (h : f_Sp_value_15 q = some o) : z_cl l y_Sp_value b_Sp_value 4 (some .long) 1 23 D (z_Kt ca) (z_K ad ca q) (z_K ad ca q) [.ref (ad 15)] o := by
  refine z_cl_of (own := z_RSp) (by decide) rfl ?_
  intro p e s m below meth c A C0 hw
  obtain ⟨hx, hb, hr, hlk, hml, hown, hts, hK, hA⟩ := id C0
  generalize hH : s.heap = H at hw ⊢
  generalize hlo : ([] : List Loc) = locs at hw ⊢
  refine z_entry (lv := [(0, .ref (ad 15))]) (Nat.le_of_ble_eq_true rfl) rfl (fun ls hl => ?_)
  unfold f_Sp_value_15 at h
  refine lv_lconst (v := (0 : Int64)) hx hb d_Sp_value_0 (by decide) ?_
  refine lv_lstore_n (lv' := [(1, .long (0 : Int64)), (0, .ref (ad 15))]) hx hb d_Sp_value_1 rfl hl (by decide) rfl (fun ls hl => ?_)
  refine lv_iconst (v := (0 : Int32)) hx hb d_Sp_value_2 (by decide) ?_
  refine lv_istore_n (lv' := [(3, .int (0 : Int32)), (1, .long (0 : Int64)), (0, .ref (ad 15))]) hx hb d_Sp_value_3 rfl hl (by decide) rfl (fun ls hl => ?_)
  exact w_Sp_value_15_4 o C0 q (0 : Int64) (0 : Int32) h H locs ls hw (lv_sub hl [2, 1, 0] rfl)
def k_Sp_find_17_128 (ih16 : Int64 × Int32 × Int32 × Int32 × z_Sg → Option (Int32 × z_Sg)) (x1 : Int64) (x4 : Int32) (x5 : Int32) (x6 : Int32) (q : z_Sg) : Option (Int32 × z_Sg) :=
  z_nm (x6 + (1 : Int32)) (fun n11 => ih16 (x1, x4, x5, n11, q))
def k_Sp_find_17_124 (t1 : Int64) (t2 : Int64) (t3 : Int32) (q : z_Sg) : Option (Int32 × z_Sg) :=
  (f_Pa_refusal t1 t2 t3 q).bind (fun r14 => some (r14.1, r14.2))
def k_Sp_find_17_69 (ih16 : Int64 × Int32 × Int32 × Int32 × z_Sg → Option (Int32 × z_Sg)) (x1 : Int64) (x4 : Int32) (x5 : Int32) (x6 : Int32) (x7 : Int64) (q : z_Sg) : Option (Int32 × z_Sg) :=
  (f_Pa_locate x7 x4 q).bind (fun r6 => if z_bad x6 8 then none else (z_nm (z_sM q 5 x6.toNatClampNeg r6) (fun q8 => if z_bad x6 8 then none else (if (0 : Int64) ≤ (z_gM q8 5 x6.toNatClampNeg) then (k_Sp_find_17_128 ih16 x1 x4 x5 x6 q8) else (if z_bad x6 8 then none else (if x5 = 0 then (k_Sp_find_17_124 x7 (z_gM q8 5 x6.toNatClampNeg) (13 : Int32) q8) else (k_Sp_find_17_124 x7 (z_gM q8 5 x6.toNatClampNeg) (12 : Int32) q8)))))))
def kb_Sp_find_17_16 (ih16 : Int64 × Int32 × Int32 × Int32 × z_Sg → Option (Int32 × z_Sg)) (x1 : Int64) (x4 : Int32) (x5 : Int32) (x6 : Int32) (q : z_Sg) : Option (Int32 × z_Sg) :=
  if (z_gI q 19) ≤ x6 then (some ((-1 : Int32), q)) else (z_nm ((x1 + (x6.toInt64))) (fun n4 => if x6 ≤ 0 then (k_Sp_find_17_69 ih16 x1 x4 x5 x6 n4 q) else (if (n4 &&& (4095 : Int64)) = (0 : Int64) then (k_Sp_find_17_69 ih16 x1 x4 x5 x6 n4 q) else (if z_bad (x6 - (1 : Int32)) 8 then none else (if z_bad x6 8 then none else (z_nm (z_sM q 5 x6.toNatClampNeg ((z_gM q 5 (x6 - (1 : Int32)).toNatClampNeg) + (1 : Int64))) (fun q18 => k_Sp_find_17_128 ih16 x1 x4 x5 x6 q18)))))))
def k_Sp_find_17_16 (x1 : Int64) (x4 : Int32) (x5 : Int32) (x6 : Int32) (q : z_Sg) : Option (Int32 × z_Sg) := z_lo (fun ih16 a => kb_Sp_find_17_16 ih16 a.1 a.2.1 a.2.2.1 a.2.2.2.1 a.2.2.2.2) 2000 (x1, x4, x5, x6, q)
def f_Sp_find_17 (x1 : Int64) (x3 : Int32) (x4 : Int32) (x5 : Int32) (q : z_Sg) : Option (Int32 × z_Sg) :=
  (f_Ma_min x3 (8 : Int32) q).bind (fun r1 => z_nm (z_sI q 19 r1) (fun q2 => k_Sp_find_17_16 x1 x4 x5 (0 : Int32) q2))
set_option maxHeartbeats 4000000 in
set_option maxRecDepth 100000 in
theorem w_Sp_find_17_128 {p : Program} {l : Launch} {e : Env} {s : State} {m : MethodId} {args : Array Value} {below : List Frame} {meth : Method} {c : Code} {D : va_G} {A : Nat → Prop} {ad : Nat → Nat} {ca : Nat → ClassId} (o : (Int32 × z_Sg)) (C0 : z_cx z_RSp b_Sp_find 9 (some .int) D (z_Kt ca) A p s m args meth c) (q : z_Sg) (ih16 : Int64 × Int32 × Int32 × Int32 × z_Sg → Option (Int32 × z_Sg)) (hi16 : ∀ a : Int64 × Int32 × Int32 × Int32 × z_Sg, ih16 a = some o → ∀ (H : Heap) (locs : List Loc) (ls : Array Slot), z_wd D (z_K ad ca a.2.2.2.2) A s H locs → lv_has ls 9 [(0, .ref (ad 17)), (1, .long a.1), (4, .int a.2.1), (5, .int a.2.2.1), (6, .int a.2.2.2.1)] → W p l e (z_rm 2 61) s m args below meth c H locs 0 0 (z_qi below D (z_Kt ca) (z_K ad ca o.2) A s args o.1) (F0 m 16 ls [])) (x1 : Int64) (x4 : Int32) (x5 : Int32) (x6 : Int32) (h : k_Sp_find_17_128 ih16 x1 x4 x5 x6 q = some o) : ∀ (H : Heap) (locs : List Loc) (ls : Array Slot), z_wd D (z_K ad ca q) A s H locs → lv_has ls 9 [(0, .ref (ad 17)), (1, .long x1), (4, .int x4), (5, .int x5), (6, .int x6)] → W p l e (z_rm 2 61) s m args below meth c H locs 0 0 (z_qi below D (z_Kt ca) (z_K ad ca o.2) A s args o.1) (F0 m 128 ls []) := by
  obtain ⟨hx, hb, hr, hlk, hml, hown, hts, hK, hA⟩ := id C0
  intro H locs ls hw hl
  obtain ⟨n11, en11, h⟩ := ok_n h
  refine lv_iinc (v := n11) (lv' := [(6, .int n11), (0, .ref (ad 17)), (1, .long x1), (4, .int x4), (5, .int x5)]) hx hb d_Sp_find_128 hl (k := 4) rfl (by rw [en11]; rfl) (by decide) rfl (fun ls hl => ?_)
  refine lv_goto (tgt := 16) hx hb d_Sp_find_131 (by decide) ?_
  exact hi16 (x1, x4, x5, n11, q) h H locs ls hw (lv_sub hl [1, 2, 3, 4, 0] rfl)
set_option maxHeartbeats 4000000 in
set_option maxRecDepth 100000 in
theorem w_Sp_find_17_124 {p : Program} {l : Launch} {e : Env} {s : State} {m : MethodId} {args : Array Value} {below : List Frame} {meth : Method} {c : Code} {D : va_G} {A : Nat → Prop} {ad : Nat → Nat} {ca : Nat → ClassId} (o : (Int32 × z_Sg)) (C0 : z_cx z_RSp b_Sp_find 9 (some .int) D (z_Kt ca) A p s m args meth c) (q : z_Sg) (t1 : Int64) (t2 : Int64) (t3 : Int32) (h : k_Sp_find_17_124 t1 t2 t3 q = some o) : ∀ (H : Heap) (locs : List Loc) (ls : Array Slot), z_wd D (z_K ad ca q) A s H locs → lv_has ls 9 [] → W p l e (z_rm 2 61) s m args below meth c H locs 0 0 (z_qi below D (z_Kt ca) (z_K ad ca o.2) A s args o.1) (F0 m 124 ls [.int t3, .long t2, .long t1, .ref (ad 3)]) := by
  obtain ⟨hx, hb, hr, hlk, hml, hown, hts, hK, hA⟩ := id C0
  intro H locs ls hw hl
  obtain ⟨r14, er14, h⟩ := ok_b h
  refine z_vi (rest := []) C0 hw (c_Pa_refusal t1 t2 t3 q r14 er14) mw_Pa_refusal ml_Sp_37 3 rfl ⟨Nat.le_of_ble_eq_true rfl, Nat.le_of_ble_eq_true rfl⟩ ⟨Nat.le_refl 0, Nat.le_refl 0⟩ rfl hl.1 rfl (Nat.le_of_ble_eq_true rfl) d_Sp_find_124 (fun H locs hw => ?_)
  have ho := Option.some.inj h
  subst ho
  exact z_rti C0 hw d_Sp_find_127
set_option maxHeartbeats 4000000 in
set_option maxRecDepth 100000 in
theorem w_Sp_find_17_69 {p : Program} {l : Launch} {e : Env} {s : State} {m : MethodId} {args : Array Value} {below : List Frame} {meth : Method} {c : Code} {D : va_G} {A : Nat → Prop} {ad : Nat → Nat} {ca : Nat → ClassId} (o : (Int32 × z_Sg)) (C0 : z_cx z_RSp b_Sp_find 9 (some .int) D (z_Kt ca) A p s m args meth c) (q : z_Sg) (ih16 : Int64 × Int32 × Int32 × Int32 × z_Sg → Option (Int32 × z_Sg)) (hi16 : ∀ a : Int64 × Int32 × Int32 × Int32 × z_Sg, ih16 a = some o → ∀ (H : Heap) (locs : List Loc) (ls : Array Slot), z_wd D (z_K ad ca a.2.2.2.2) A s H locs → lv_has ls 9 [(0, .ref (ad 17)), (1, .long a.1), (4, .int a.2.1), (5, .int a.2.2.1), (6, .int a.2.2.2.1)] → W p l e (z_rm 2 61) s m args below meth c H locs 0 0 (z_qi below D (z_Kt ca) (z_K ad ca o.2) A s args o.1) (F0 m 16 ls [])) (x1 : Int64) (x4 : Int32) (x5 : Int32) (x6 : Int32) (x7 : Int64) (h : k_Sp_find_17_69 ih16 x1 x4 x5 x6 x7 q = some o) : ∀ (H : Heap) (locs : List Loc) (ls : Array Slot), z_wd D (z_K ad ca q) A s H locs → lv_has ls 9 [(0, .ref (ad 17)), (1, .long x1), (4, .int x4), (5, .int x5), (6, .int x6), (7, .long x7)] → W p l e (z_rm 2 61) s m args below meth c H locs 0 0 (z_qi below D (z_Kt ca) (z_K ad ca o.2) A s args o.1) (F0 m 69 ls []) := by
  obtain ⟨hx, hb, hr, hlk, hml, hown, hts, hK, hA⟩ := id C0
  intro H locs ls hw hl
  refine lv_aload_n hx hb d_Sp_find_69 rfl (lv_at hl 0 rfl) ?_
  refine gfK_17_at C0 hw fl_Sp_9 d_Sp_find_70 ?_
  refine lv_iload hx hb d_Sp_find_73 (lv_at hl 4 rfl) ?_
  refine lv_aload_n hx hb d_Sp_find_75 rfl (lv_at hl 0 rfl) ?_
  refine gfK_17_pages C0 hw fl_Sp_15 d_Sp_find_76 ?_
  refine lv_lload hx hb d_Sp_find_79 (lv_at hl 5 rfl) ?_
  refine lv_iload hx hb d_Sp_find_81 (lv_at hl 2 rfl) ?_
  obtain ⟨r6, er6, h⟩ := ok_b h
  refine z_vl (rest := [.int x6, .ref (ad 18)]) C0 hw (c_Pa_locate x7 x4 q r6 er6) mw_Pa_locate ml_Sp_33 3 rfl ⟨Nat.le_of_ble_eq_true rfl, Nat.le_of_ble_eq_true rfl⟩ ⟨Nat.le_refl 0, Nat.le_refl 0⟩ rfl hl.1 rfl (Nat.le_of_ble_eq_true rfl) d_Sp_find_83 (fun H locs hw => ?_)
  obtain ⟨b7, h⟩ := ok_g h
  refine asK_18 C0 hw b7 d_Sp_find_86 (fun H locs hw => ?_)
  obtain ⟨q8, eq8, h⟩ := ok_n h
  rw [← eq8] at hw
  refine lv_aload_n hx hb d_Sp_find_87 rfl (lv_at hl 0 rfl) ?_
  refine gfK_17_at C0 hw fl_Sp_9 d_Sp_find_88 ?_
  refine lv_iload hx hb d_Sp_find_91 (lv_at hl 4 rfl) ?_
  obtain ⟨b9, h⟩ := ok_g h
  refine alK_18 C0 hw b9 d_Sp_find_93 ?_
  refine lv_lconst (v := (0 : Int64)) hx hb d_Sp_find_94 (by decide) ?_
  refine W.lcmp hx hb d_Sp_find_95 ?_
  refine lv_if_ge (tgt := 128) hx hb d_Sp_find_96 (by decide) (fun c10 => ?_) (fun c10 => ?_)
  · have h := ok_t h ((lg_cmp_ge _ _).mp c10)
    exact w_Sp_find_17_128 o C0 q8 ih16 hi16 x1 x4 x5 x6 h H locs ls hw (lv_sub hl [0, 1, 2, 3, 4] rfl)
  · have h := ok_f h (fun z => c10 ((lg_cmp_ge _ _).mpr z))
    refine lv_aload_n hx hb d_Sp_find_99 rfl (lv_at hl 0 rfl) ?_
    refine gfK_17_pages C0 hw fl_Sp_15 d_Sp_find_100 ?_
    refine lv_lload hx hb d_Sp_find_103 (lv_at hl 5 rfl) ?_
    refine lv_aload_n hx hb d_Sp_find_105 rfl (lv_at hl 0 rfl) ?_
    refine gfK_17_at C0 hw fl_Sp_9 d_Sp_find_106 ?_
    refine lv_iload hx hb d_Sp_find_109 (lv_at hl 4 rfl) ?_
    obtain ⟨b12, h⟩ := ok_g h
    refine alK_18 C0 hw b12 d_Sp_find_111 ?_
    refine lv_iload hx hb d_Sp_find_112 (lv_at hl 3 rfl) ?_
    refine lv_if_eq (tgt := 122) hx hb d_Sp_find_114 (by decide) (fun c13 => ?_) (fun c13 => ?_)
    · have h := ok_t h c13
      refine lv_bipush (v := (13 : Int32)) hx hb d_Sp_find_122 (by decide) ?_
      exact w_Sp_find_17_124 o C0 q8 x7 (z_gM q8 5 x6.toNatClampNeg) (13 : Int32) h H locs ls hw (lv_sub hl [] rfl)
    · have h := ok_f h c13
      refine lv_bipush (v := (12 : Int32)) hx hb d_Sp_find_117 (by decide) ?_
      refine lv_goto (tgt := 124) hx hb d_Sp_find_119 (by decide) ?_
      exact w_Sp_find_17_124 o C0 q8 x7 (z_gM q8 5 x6.toNatClampNeg) (12 : Int32) h H locs ls hw (lv_sub hl [] rfl)
set_option maxHeartbeats 4000000 in
set_option maxRecDepth 100000 in
theorem wb_Sp_find_17_16 {p : Program} {l : Launch} {e : Env} {s : State} {m : MethodId} {args : Array Value} {below : List Frame} {meth : Method} {c : Code} {D : va_G} {A : Nat → Prop} {ad : Nat → Nat} {ca : Nat → ClassId} (o : (Int32 × z_Sg)) (C0 : z_cx z_RSp b_Sp_find 9 (some .int) D (z_Kt ca) A p s m args meth c) (q : z_Sg) (ih16 : Int64 × Int32 × Int32 × Int32 × z_Sg → Option (Int32 × z_Sg)) (hi16 : ∀ a : Int64 × Int32 × Int32 × Int32 × z_Sg, ih16 a = some o → ∀ (H : Heap) (locs : List Loc) (ls : Array Slot), z_wd D (z_K ad ca a.2.2.2.2) A s H locs → lv_has ls 9 [(0, .ref (ad 17)), (1, .long a.1), (4, .int a.2.1), (5, .int a.2.2.1), (6, .int a.2.2.2.1)] → W p l e (z_rm 2 61) s m args below meth c H locs 0 0 (z_qi below D (z_Kt ca) (z_K ad ca o.2) A s args o.1) (F0 m 16 ls [])) (x1 : Int64) (x4 : Int32) (x5 : Int32) (x6 : Int32) (h : kb_Sp_find_17_16 ih16 x1 x4 x5 x6 q = some o) : ∀ (H : Heap) (locs : List Loc) (ls : Array Slot), z_wd D (z_K ad ca q) A s H locs → lv_has ls 9 [(0, .ref (ad 17)), (1, .long x1), (4, .int x4), (5, .int x5), (6, .int x6)] → W p l e (z_rm 2 61) s m args below meth c H locs 0 0 (z_qi below D (z_Kt ca) (z_K ad ca o.2) A s args o.1) (F0 m 16 ls []) := by
  obtain ⟨hx, hb, hr, hlk, hml, hown, hts, hK, hA⟩ := id C0
  intro H locs ls hw hl
  refine lv_iload hx hb d_Sp_find_16 (lv_at hl 4 rfl) ?_
  refine lv_aload_n hx hb d_Sp_find_18 rfl (lv_at hl 0 rfl) ?_
  refine gfK_17_length C0 hw fl_Sp_25 d_Sp_find_19 ?_
  refine lv_icmp_ge (tgt := 134) hx hb d_Sp_find_22 (by decide) (fun c3 => ?_) (fun c3 => ?_)
  · have h := ok_t h c3
    refine lv_iconst (v := (-1 : Int32)) hx hb d_Sp_find_134 (by decide) ?_
    have ho := Option.some.inj h
    subst ho
    exact z_rti C0 hw d_Sp_find_135
  · have h := ok_f h c3
    refine lv_lload_n hx hb d_Sp_find_25 rfl (lv_at hl 1 rfl) ?_
    refine lv_iload hx hb d_Sp_find_26 (lv_at hl 4 rfl) ?_
    refine lv_i2l hx hb d_Sp_find_28 rfl ?_
    refine lv_ladd hx hb d_Sp_find_29 ?_
    obtain ⟨n4, en4, h⟩ := ok_n h
    refine z_tl en4 ?_
    refine lv_lstore (lv' := [(7, .long n4), (0, .ref (ad 17)), (1, .long x1), (4, .int x4), (5, .int x5), (6, .int x6)]) hx hb d_Sp_find_30 hl (by decide) rfl (fun ls hl => ?_)
    refine lv_iload hx hb d_Sp_find_32 (lv_at hl 5 rfl) ?_
    refine lv_if_le (tgt := 69) hx hb d_Sp_find_34 (by decide) (fun c5 => ?_) (fun c5 => ?_)
    · have h := ok_t h c5
      exact w_Sp_find_17_69 o C0 q ih16 hi16 x1 x4 x5 x6 n4 h H locs ls hw (lv_sub hl [1, 2, 3, 4, 5, 0] rfl)
    · have h := ok_f h c5
      refine lv_lload hx hb d_Sp_find_37 (lv_at hl 0 rfl) ?_
      refine lv_ldc2 (own := z_RSp) hx hb hown (hts _ kl_Sp_31) d_Sp_find_39 ?_
      refine lv_land hx hb d_Sp_find_42 ?_
      refine lv_lconst (v := (0 : Int64)) hx hb d_Sp_find_43 (by decide) ?_
      refine W.lcmp hx hb d_Sp_find_44 ?_
      refine lv_if_eq (tgt := 69) hx hb d_Sp_find_45 (by decide) (fun c15 => ?_) (fun c15 => ?_)
      · have h := ok_t h ((lg_cmp_eq _ _).mp c15)
        exact w_Sp_find_17_69 o C0 q ih16 hi16 x1 x4 x5 x6 n4 h H locs ls hw (lv_sub hl [1, 2, 3, 4, 5, 0] rfl)
      · have h := ok_f h (fun z => c15 ((lg_cmp_eq _ _).mpr z))
        refine lv_aload_n hx hb d_Sp_find_48 rfl (lv_at hl 1 rfl) ?_
        refine gfK_17_at C0 hw fl_Sp_9 d_Sp_find_49 ?_
        refine lv_iload hx hb d_Sp_find_52 (lv_at hl 5 rfl) ?_
        refine lv_aload_n hx hb d_Sp_find_54 rfl (lv_at hl 1 rfl) ?_
        refine gfK_17_at C0 hw fl_Sp_9 d_Sp_find_55 ?_
        refine lv_iload hx hb d_Sp_find_58 (lv_at hl 5 rfl) ?_
        refine lv_iconst (v := (1 : Int32)) hx hb d_Sp_find_60 (by decide) ?_
        refine lv_isub hx hb d_Sp_find_61 ?_
        obtain ⟨b16, h⟩ := ok_g h
        refine alK_18 C0 hw b16 d_Sp_find_62 ?_
        refine lv_lconst (v := (1 : Int64)) hx hb d_Sp_find_63 (by decide) ?_
        refine lv_ladd hx hb d_Sp_find_64 ?_
        obtain ⟨b17, h⟩ := ok_g h
        refine asK_18 C0 hw b17 d_Sp_find_65 (fun H locs hw => ?_)
        obtain ⟨q18, eq18, h⟩ := ok_n h
        rw [← eq18] at hw
        refine lv_goto (tgt := 128) hx hb d_Sp_find_66 (by decide) ?_
        exact w_Sp_find_17_128 o C0 q18 ih16 hi16 x1 x4 x5 x6 h H locs ls hw (lv_sub hl [1, 2, 3, 4, 5] rfl)
theorem w_Sp_find_17_16 {p : Program} {l : Launch} {e : Env} {s : State} {m : MethodId} {args : Array Value} {below : List Frame} {meth : Method} {c : Code} {D : va_G} {A : Nat → Prop} {ad : Nat → Nat} {ca : Nat → ClassId} (o : (Int32 × z_Sg)) (C0 : z_cx z_RSp b_Sp_find 9 (some .int) D (z_Kt ca) A p s m args meth c) (q : z_Sg) (x1 : Int64) (x4 : Int32) (x5 : Int32) (x6 : Int32) (h : k_Sp_find_17_16 x1 x4 x5 x6 q = some o) : ∀ (H : Heap) (locs : List Loc) (ls : Array Slot), z_wd D (z_K ad ca q) A s H locs → lv_has ls 9 [(0, .ref (ad 17)), (1, .long x1), (4, .int x4), (5, .int x5), (6, .int x6)] → W p l e (z_rm 2 61) s m args below meth c H locs 0 0 (z_qi below D (z_Kt ca) (z_K ad ca o.2) A s args o.1) (F0 m 16 ls []) := by
  have key : ∀ (n : Nat) (a : Int64 × Int32 × Int32 × Int32 × z_Sg), z_lo (fun ih16 a => kb_Sp_find_17_16 ih16 a.1 a.2.1 a.2.2.1 a.2.2.2.1 a.2.2.2.2) n a = some o → ∀ (H : Heap) (locs : List Loc) (ls : Array Slot), z_wd D (z_K ad ca a.2.2.2.2) A s H locs → lv_has ls 9 [(0, .ref (ad 17)), (1, .long a.1), (4, .int a.2.1), (5, .int a.2.2.1), (6, .int a.2.2.2.1)] → W p l e (z_rm 2 61) s m args below meth c H locs 0 0 (z_qi below D (z_Kt ca) (z_K ad ca o.2) A s args o.1) (F0 m 16 ls []) := by
    intro n
    induction n with
    | zero => intro a h; cases h
    | succ n ih => exact fun a h => wb_Sp_find_17_16 o C0 a.2.2.2.2 (z_lo (fun ih16 a => kb_Sp_find_17_16 ih16 a.1 a.2.1 a.2.2.1 a.2.2.2.1 a.2.2.2.2) n) ih a.1 a.2.1 a.2.2.1 a.2.2.2.1 h
  exact key 2000 (x1, x4, x5, x6, q) h
set_option maxHeartbeats 4000000 in
set_option maxRecDepth 100000 in
theorem c_Sp_find_17 {l : Launch} {D : va_G} {ad : Nat → Nat} {ca : Nat → ClassId} (x1 : Int64) (x3 : Int32) (x4 : Int32) (x5 : Int32) (q : z_Sg) (o : (Int32 × z_Sg)) (h : f_Sp_find_17 x1 x3 x4 x5 q = some o) : z_ci l y_Sp_find b_Sp_find 9 (some .int) 2 61 D (z_Kt ca) (z_K ad ca q) (z_K ad ca o.2) [.ref (ad 17), .long x1, .int x3, .int x4, .int x5] o.1 := by
  refine z_ci_of (own := z_RSp) (by decide) rfl ?_
  intro p e s m below meth c A C0 hw
  obtain ⟨hx, hb, hr, hlk, hml, hown, hts, hK, hA⟩ := id C0
  generalize hH : s.heap = H at hw ⊢
  generalize hlo : ([] : List Loc) = locs at hw ⊢
  refine z_entry (lv := [(0, .ref (ad 17)), (1, .long x1), (3, .int x3), (4, .int x4), (5, .int x5)]) (Nat.le_of_ble_eq_true rfl) rfl (fun ls hl => ?_)
  unfold f_Sp_find_17 at h
  refine lv_aload_n hx hb d_Sp_find_0 rfl (lv_at hl 0 rfl) ?_
  refine lv_iload_n hx hb d_Sp_find_1 rfl (lv_at hl 2 rfl) ?_
  refine lv_aload_n hx hb d_Sp_find_2 rfl (lv_at hl 0 rfl) ?_
  refine gfK_17_at C0 hw fl_Sp_9 d_Sp_find_3 ?_
  refine va_alen hx hb hK hw.1 18 5 rfl rfl (v := (8 : Int32)) rfl d_Sp_find_6 ?_
  obtain ⟨r1, er1, h⟩ := ok_b h
  refine z_si (rest := [.ref (ad 17)]) C0 hw (c_Ma_min x3 (8 : Int32) q r1 er1) mw_Ma_min ml_Sp_19 ⟨Nat.le_of_ble_eq_true rfl, Nat.le_of_ble_eq_true rfl⟩ ⟨Nat.le_refl 0, Nat.le_refl 0⟩ rfl hl.1 rfl (Nat.le_of_ble_eq_true rfl) d_Sp_find_7 (fun H locs hw => ?_)
  refine pfK_17_length C0 hw fl_Sp_25 d_Sp_find_10 (fun H locs hw => ?_)
  obtain ⟨q2, eq2, h⟩ := ok_n h
  rw [← eq2] at hw
  refine lv_iconst (v := (0 : Int32)) hx hb d_Sp_find_13 (by decide) ?_
  refine lv_istore (lv' := [(6, .int (0 : Int32)), (0, .ref (ad 17)), (1, .long x1), (3, .int x3), (4, .int x4), (5, .int x5)]) hx hb d_Sp_find_14 hl (by decide) rfl (fun ls hl => ?_)
  exact w_Sp_find_17_16 o C0 q2 x1 x4 x5 (0 : Int32) h H locs ls hw (lv_sub hl [1, 2, 4, 5, 0] rfl)
def k_Sp_find_15_128 (ih16 : Int64 × Int32 × Int32 × Int32 × z_Sg → Option (Int32 × z_Sg)) (x1 : Int64) (x4 : Int32) (x5 : Int32) (x6 : Int32) (q : z_Sg) : Option (Int32 × z_Sg) :=
  z_nm (x6 + (1 : Int32)) (fun n11 => ih16 (x1, x4, x5, n11, q))
def k_Sp_find_15_124 (t1 : Int64) (t2 : Int64) (t3 : Int32) (q : z_Sg) : Option (Int32 × z_Sg) :=
  (f_Pa_refusal t1 t2 t3 q).bind (fun r14 => some (r14.1, r14.2))
def k_Sp_find_15_69 (ih16 : Int64 × Int32 × Int32 × Int32 × z_Sg → Option (Int32 × z_Sg)) (x1 : Int64) (x4 : Int32) (x5 : Int32) (x6 : Int32) (x7 : Int64) (q : z_Sg) : Option (Int32 × z_Sg) :=
  (f_Pa_locate x7 x4 q).bind (fun r6 => if z_bad x6 8 then none else (z_nm (z_sM q 4 x6.toNatClampNeg r6) (fun q8 => if z_bad x6 8 then none else (if (0 : Int64) ≤ (z_gM q8 4 x6.toNatClampNeg) then (k_Sp_find_15_128 ih16 x1 x4 x5 x6 q8) else (if z_bad x6 8 then none else (if x5 = 0 then (k_Sp_find_15_124 x7 (z_gM q8 4 x6.toNatClampNeg) (13 : Int32) q8) else (k_Sp_find_15_124 x7 (z_gM q8 4 x6.toNatClampNeg) (12 : Int32) q8)))))))
def kb_Sp_find_15_16 (ih16 : Int64 × Int32 × Int32 × Int32 × z_Sg → Option (Int32 × z_Sg)) (x1 : Int64) (x4 : Int32) (x5 : Int32) (x6 : Int32) (q : z_Sg) : Option (Int32 × z_Sg) :=
  if (z_gI q 18) ≤ x6 then (some ((-1 : Int32), q)) else (z_nm ((x1 + (x6.toInt64))) (fun n4 => if x6 ≤ 0 then (k_Sp_find_15_69 ih16 x1 x4 x5 x6 n4 q) else (if (n4 &&& (4095 : Int64)) = (0 : Int64) then (k_Sp_find_15_69 ih16 x1 x4 x5 x6 n4 q) else (if z_bad (x6 - (1 : Int32)) 8 then none else (if z_bad x6 8 then none else (z_nm (z_sM q 4 x6.toNatClampNeg ((z_gM q 4 (x6 - (1 : Int32)).toNatClampNeg) + (1 : Int64))) (fun q18 => k_Sp_find_15_128 ih16 x1 x4 x5 x6 q18)))))))
def k_Sp_find_15_16 (x1 : Int64) (x4 : Int32) (x5 : Int32) (x6 : Int32) (q : z_Sg) : Option (Int32 × z_Sg) := z_lo (fun ih16 a => kb_Sp_find_15_16 ih16 a.1 a.2.1 a.2.2.1 a.2.2.2.1 a.2.2.2.2) 2000 (x1, x4, x5, x6, q)
def f_Sp_find_15 (x1 : Int64) (x3 : Int32) (x4 : Int32) (x5 : Int32) (q : z_Sg) : Option (Int32 × z_Sg) :=
  (f_Ma_min x3 (8 : Int32) q).bind (fun r1 => z_nm (z_sI q 18 r1) (fun q2 => k_Sp_find_15_16 x1 x4 x5 (0 : Int32) q2))
set_option maxHeartbeats 4000000 in
set_option maxRecDepth 100000 in
theorem w_Sp_find_15_128 {p : Program} {l : Launch} {e : Env} {s : State} {m : MethodId} {args : Array Value} {below : List Frame} {meth : Method} {c : Code} {D : va_G} {A : Nat → Prop} {ad : Nat → Nat} {ca : Nat → ClassId} (o : (Int32 × z_Sg)) (C0 : z_cx z_RSp b_Sp_find 9 (some .int) D (z_Kt ca) A p s m args meth c) (q : z_Sg) (ih16 : Int64 × Int32 × Int32 × Int32 × z_Sg → Option (Int32 × z_Sg)) (hi16 : ∀ a : Int64 × Int32 × Int32 × Int32 × z_Sg, ih16 a = some o → ∀ (H : Heap) (locs : List Loc) (ls : Array Slot), z_wd D (z_K ad ca a.2.2.2.2) A s H locs → lv_has ls 9 [(0, .ref (ad 15)), (1, .long a.1), (4, .int a.2.1), (5, .int a.2.2.1), (6, .int a.2.2.2.1)] → W p l e (z_rm 2 61) s m args below meth c H locs 0 0 (z_qi below D (z_Kt ca) (z_K ad ca o.2) A s args o.1) (F0 m 16 ls [])) (x1 : Int64) (x4 : Int32) (x5 : Int32) (x6 : Int32) (h : k_Sp_find_15_128 ih16 x1 x4 x5 x6 q = some o) : ∀ (H : Heap) (locs : List Loc) (ls : Array Slot), z_wd D (z_K ad ca q) A s H locs → lv_has ls 9 [(0, .ref (ad 15)), (1, .long x1), (4, .int x4), (5, .int x5), (6, .int x6)] → W p l e (z_rm 2 61) s m args below meth c H locs 0 0 (z_qi below D (z_Kt ca) (z_K ad ca o.2) A s args o.1) (F0 m 128 ls []) := by
  obtain ⟨hx, hb, hr, hlk, hml, hown, hts, hK, hA⟩ := id C0
  intro H locs ls hw hl
  obtain ⟨n11, en11, h⟩ := ok_n h
  refine lv_iinc (v := n11) (lv' := [(6, .int n11), (0, .ref (ad 15)), (1, .long x1), (4, .int x4), (5, .int x5)]) hx hb d_Sp_find_128 hl (k := 4) rfl (by rw [en11]; rfl) (by decide) rfl (fun ls hl => ?_)
  refine lv_goto (tgt := 16) hx hb d_Sp_find_131 (by decide) ?_
  exact hi16 (x1, x4, x5, n11, q) h H locs ls hw (lv_sub hl [1, 2, 3, 4, 0] rfl)
set_option maxHeartbeats 4000000 in
set_option maxRecDepth 100000 in
theorem w_Sp_find_15_124 {p : Program} {l : Launch} {e : Env} {s : State} {m : MethodId} {args : Array Value} {below : List Frame} {meth : Method} {c : Code} {D : va_G} {A : Nat → Prop} {ad : Nat → Nat} {ca : Nat → ClassId} (o : (Int32 × z_Sg)) (C0 : z_cx z_RSp b_Sp_find 9 (some .int) D (z_Kt ca) A p s m args meth c) (q : z_Sg) (t1 : Int64) (t2 : Int64) (t3 : Int32) (h : k_Sp_find_15_124 t1 t2 t3 q = some o) : ∀ (H : Heap) (locs : List Loc) (ls : Array Slot), z_wd D (z_K ad ca q) A s H locs → lv_has ls 9 [] → W p l e (z_rm 2 61) s m args below meth c H locs 0 0 (z_qi below D (z_Kt ca) (z_K ad ca o.2) A s args o.1) (F0 m 124 ls [.int t3, .long t2, .long t1, .ref (ad 3)]) := by
  obtain ⟨hx, hb, hr, hlk, hml, hown, hts, hK, hA⟩ := id C0
  intro H locs ls hw hl
  obtain ⟨r14, er14, h⟩ := ok_b h
  refine z_vi (rest := []) C0 hw (c_Pa_refusal t1 t2 t3 q r14 er14) mw_Pa_refusal ml_Sp_37 3 rfl ⟨Nat.le_of_ble_eq_true rfl, Nat.le_of_ble_eq_true rfl⟩ ⟨Nat.le_refl 0, Nat.le_refl 0⟩ rfl hl.1 rfl (Nat.le_of_ble_eq_true rfl) d_Sp_find_124 (fun H locs hw => ?_)
  have ho := Option.some.inj h
  subst ho
  exact z_rti C0 hw d_Sp_find_127
set_option maxHeartbeats 4000000 in
set_option maxRecDepth 100000 in
theorem w_Sp_find_15_69 {p : Program} {l : Launch} {e : Env} {s : State} {m : MethodId} {args : Array Value} {below : List Frame} {meth : Method} {c : Code} {D : va_G} {A : Nat → Prop} {ad : Nat → Nat} {ca : Nat → ClassId} (o : (Int32 × z_Sg)) (C0 : z_cx z_RSp b_Sp_find 9 (some .int) D (z_Kt ca) A p s m args meth c) (q : z_Sg) (ih16 : Int64 × Int32 × Int32 × Int32 × z_Sg → Option (Int32 × z_Sg)) (hi16 : ∀ a : Int64 × Int32 × Int32 × Int32 × z_Sg, ih16 a = some o → ∀ (H : Heap) (locs : List Loc) (ls : Array Slot), z_wd D (z_K ad ca a.2.2.2.2) A s H locs → lv_has ls 9 [(0, .ref (ad 15)), (1, .long a.1), (4, .int a.2.1), (5, .int a.2.2.1), (6, .int a.2.2.2.1)] → W p l e (z_rm 2 61) s m args below meth c H locs 0 0 (z_qi below D (z_Kt ca) (z_K ad ca o.2) A s args o.1) (F0 m 16 ls [])) (x1 : Int64) (x4 : Int32) (x5 : Int32) (x6 : Int32) (x7 : Int64) (h : k_Sp_find_15_69 ih16 x1 x4 x5 x6 x7 q = some o) : ∀ (H : Heap) (locs : List Loc) (ls : Array Slot), z_wd D (z_K ad ca q) A s H locs → lv_has ls 9 [(0, .ref (ad 15)), (1, .long x1), (4, .int x4), (5, .int x5), (6, .int x6), (7, .long x7)] → W p l e (z_rm 2 61) s m args below meth c H locs 0 0 (z_qi below D (z_Kt ca) (z_K ad ca o.2) A s args o.1) (F0 m 69 ls []) := by
  obtain ⟨hx, hb, hr, hlk, hml, hown, hts, hK, hA⟩ := id C0
  intro H locs ls hw hl
  refine lv_aload_n hx hb d_Sp_find_69 rfl (lv_at hl 0 rfl) ?_
  refine gfK_15_at C0 hw fl_Sp_9 d_Sp_find_70 ?_
  refine lv_iload hx hb d_Sp_find_73 (lv_at hl 4 rfl) ?_
  refine lv_aload_n hx hb d_Sp_find_75 rfl (lv_at hl 0 rfl) ?_
  refine gfK_15_pages C0 hw fl_Sp_15 d_Sp_find_76 ?_
  refine lv_lload hx hb d_Sp_find_79 (lv_at hl 5 rfl) ?_
  refine lv_iload hx hb d_Sp_find_81 (lv_at hl 2 rfl) ?_
  obtain ⟨r6, er6, h⟩ := ok_b h
  refine z_vl (rest := [.int x6, .ref (ad 16)]) C0 hw (c_Pa_locate x7 x4 q r6 er6) mw_Pa_locate ml_Sp_33 3 rfl ⟨Nat.le_of_ble_eq_true rfl, Nat.le_of_ble_eq_true rfl⟩ ⟨Nat.le_refl 0, Nat.le_refl 0⟩ rfl hl.1 rfl (Nat.le_of_ble_eq_true rfl) d_Sp_find_83 (fun H locs hw => ?_)
  obtain ⟨b7, h⟩ := ok_g h
  refine asK_16 C0 hw b7 d_Sp_find_86 (fun H locs hw => ?_)
  obtain ⟨q8, eq8, h⟩ := ok_n h
  rw [← eq8] at hw
  refine lv_aload_n hx hb d_Sp_find_87 rfl (lv_at hl 0 rfl) ?_
  refine gfK_15_at C0 hw fl_Sp_9 d_Sp_find_88 ?_
  refine lv_iload hx hb d_Sp_find_91 (lv_at hl 4 rfl) ?_
  obtain ⟨b9, h⟩ := ok_g h
  refine alK_16 C0 hw b9 d_Sp_find_93 ?_
  refine lv_lconst (v := (0 : Int64)) hx hb d_Sp_find_94 (by decide) ?_
  refine W.lcmp hx hb d_Sp_find_95 ?_
  refine lv_if_ge (tgt := 128) hx hb d_Sp_find_96 (by decide) (fun c10 => ?_) (fun c10 => ?_)
  · have h := ok_t h ((lg_cmp_ge _ _).mp c10)
    exact w_Sp_find_15_128 o C0 q8 ih16 hi16 x1 x4 x5 x6 h H locs ls hw (lv_sub hl [0, 1, 2, 3, 4] rfl)
  · have h := ok_f h (fun z => c10 ((lg_cmp_ge _ _).mpr z))
    refine lv_aload_n hx hb d_Sp_find_99 rfl (lv_at hl 0 rfl) ?_
    refine gfK_15_pages C0 hw fl_Sp_15 d_Sp_find_100 ?_
    refine lv_lload hx hb d_Sp_find_103 (lv_at hl 5 rfl) ?_
    refine lv_aload_n hx hb d_Sp_find_105 rfl (lv_at hl 0 rfl) ?_
    refine gfK_15_at C0 hw fl_Sp_9 d_Sp_find_106 ?_
    refine lv_iload hx hb d_Sp_find_109 (lv_at hl 4 rfl) ?_
    obtain ⟨b12, h⟩ := ok_g h
    refine alK_16 C0 hw b12 d_Sp_find_111 ?_
    refine lv_iload hx hb d_Sp_find_112 (lv_at hl 3 rfl) ?_
    refine lv_if_eq (tgt := 122) hx hb d_Sp_find_114 (by decide) (fun c13 => ?_) (fun c13 => ?_)
    · have h := ok_t h c13
      refine lv_bipush (v := (13 : Int32)) hx hb d_Sp_find_122 (by decide) ?_
      exact w_Sp_find_15_124 o C0 q8 x7 (z_gM q8 4 x6.toNatClampNeg) (13 : Int32) h H locs ls hw (lv_sub hl [] rfl)
    · have h := ok_f h c13
      refine lv_bipush (v := (12 : Int32)) hx hb d_Sp_find_117 (by decide) ?_
      refine lv_goto (tgt := 124) hx hb d_Sp_find_119 (by decide) ?_
      exact w_Sp_find_15_124 o C0 q8 x7 (z_gM q8 4 x6.toNatClampNeg) (12 : Int32) h H locs ls hw (lv_sub hl [] rfl)
set_option maxHeartbeats 4000000 in
set_option maxRecDepth 100000 in
theorem wb_Sp_find_15_16 {p : Program} {l : Launch} {e : Env} {s : State} {m : MethodId} {args : Array Value} {below : List Frame} {meth : Method} {c : Code} {D : va_G} {A : Nat → Prop} {ad : Nat → Nat} {ca : Nat → ClassId} (o : (Int32 × z_Sg)) (C0 : z_cx z_RSp b_Sp_find 9 (some .int) D (z_Kt ca) A p s m args meth c) (q : z_Sg) (ih16 : Int64 × Int32 × Int32 × Int32 × z_Sg → Option (Int32 × z_Sg)) (hi16 : ∀ a : Int64 × Int32 × Int32 × Int32 × z_Sg, ih16 a = some o → ∀ (H : Heap) (locs : List Loc) (ls : Array Slot), z_wd D (z_K ad ca a.2.2.2.2) A s H locs → lv_has ls 9 [(0, .ref (ad 15)), (1, .long a.1), (4, .int a.2.1), (5, .int a.2.2.1), (6, .int a.2.2.2.1)] → W p l e (z_rm 2 61) s m args below meth c H locs 0 0 (z_qi below D (z_Kt ca) (z_K ad ca o.2) A s args o.1) (F0 m 16 ls [])) (x1 : Int64) (x4 : Int32) (x5 : Int32) (x6 : Int32) (h : kb_Sp_find_15_16 ih16 x1 x4 x5 x6 q = some o) : ∀ (H : Heap) (locs : List Loc) (ls : Array Slot), z_wd D (z_K ad ca q) A s H locs → lv_has ls 9 [(0, .ref (ad 15)), (1, .long x1), (4, .int x4), (5, .int x5), (6, .int x6)] → W p l e (z_rm 2 61) s m args below meth c H locs 0 0 (z_qi below D (z_Kt ca) (z_K ad ca o.2) A s args o.1) (F0 m 16 ls []) := by
  obtain ⟨hx, hb, hr, hlk, hml, hown, hts, hK, hA⟩ := id C0
  intro H locs ls hw hl
  refine lv_iload hx hb d_Sp_find_16 (lv_at hl 4 rfl) ?_
  refine lv_aload_n hx hb d_Sp_find_18 rfl (lv_at hl 0 rfl) ?_
  refine gfK_15_length C0 hw fl_Sp_25 d_Sp_find_19 ?_
  refine lv_icmp_ge (tgt := 134) hx hb d_Sp_find_22 (by decide) (fun c3 => ?_) (fun c3 => ?_)
  · have h := ok_t h c3
    refine lv_iconst (v := (-1 : Int32)) hx hb d_Sp_find_134 (by decide) ?_
    have ho := Option.some.inj h
    subst ho
    exact z_rti C0 hw d_Sp_find_135
  · have h := ok_f h c3
    refine lv_lload_n hx hb d_Sp_find_25 rfl (lv_at hl 1 rfl) ?_
    refine lv_iload hx hb d_Sp_find_26 (lv_at hl 4 rfl) ?_
    refine lv_i2l hx hb d_Sp_find_28 rfl ?_
    refine lv_ladd hx hb d_Sp_find_29 ?_
    obtain ⟨n4, en4, h⟩ := ok_n h
    refine z_tl en4 ?_
    refine lv_lstore (lv' := [(7, .long n4), (0, .ref (ad 15)), (1, .long x1), (4, .int x4), (5, .int x5), (6, .int x6)]) hx hb d_Sp_find_30 hl (by decide) rfl (fun ls hl => ?_)
    refine lv_iload hx hb d_Sp_find_32 (lv_at hl 5 rfl) ?_
    refine lv_if_le (tgt := 69) hx hb d_Sp_find_34 (by decide) (fun c5 => ?_) (fun c5 => ?_)
    · have h := ok_t h c5
      exact w_Sp_find_15_69 o C0 q ih16 hi16 x1 x4 x5 x6 n4 h H locs ls hw (lv_sub hl [1, 2, 3, 4, 5, 0] rfl)
    · have h := ok_f h c5
      refine lv_lload hx hb d_Sp_find_37 (lv_at hl 0 rfl) ?_
      refine lv_ldc2 (own := z_RSp) hx hb hown (hts _ kl_Sp_31) d_Sp_find_39 ?_
      refine lv_land hx hb d_Sp_find_42 ?_
      refine lv_lconst (v := (0 : Int64)) hx hb d_Sp_find_43 (by decide) ?_
      refine W.lcmp hx hb d_Sp_find_44 ?_
      refine lv_if_eq (tgt := 69) hx hb d_Sp_find_45 (by decide) (fun c15 => ?_) (fun c15 => ?_)
      · have h := ok_t h ((lg_cmp_eq _ _).mp c15)
        exact w_Sp_find_15_69 o C0 q ih16 hi16 x1 x4 x5 x6 n4 h H locs ls hw (lv_sub hl [1, 2, 3, 4, 5, 0] rfl)
      · have h := ok_f h (fun z => c15 ((lg_cmp_eq _ _).mpr z))
        refine lv_aload_n hx hb d_Sp_find_48 rfl (lv_at hl 1 rfl) ?_
        refine gfK_15_at C0 hw fl_Sp_9 d_Sp_find_49 ?_
        refine lv_iload hx hb d_Sp_find_52 (lv_at hl 5 rfl) ?_
        refine lv_aload_n hx hb d_Sp_find_54 rfl (lv_at hl 1 rfl) ?_
        refine gfK_15_at C0 hw fl_Sp_9 d_Sp_find_55 ?_
        refine lv_iload hx hb d_Sp_find_58 (lv_at hl 5 rfl) ?_
        refine lv_iconst (v := (1 : Int32)) hx hb d_Sp_find_60 (by decide) ?_
        refine lv_isub hx hb d_Sp_find_61 ?_
        obtain ⟨b16, h⟩ := ok_g h
        refine alK_16 C0 hw b16 d_Sp_find_62 ?_
        refine lv_lconst (v := (1 : Int64)) hx hb d_Sp_find_63 (by decide) ?_
        refine lv_ladd hx hb d_Sp_find_64 ?_
        obtain ⟨b17, h⟩ := ok_g h
        refine asK_16 C0 hw b17 d_Sp_find_65 (fun H locs hw => ?_)
        obtain ⟨q18, eq18, h⟩ := ok_n h
        rw [← eq18] at hw
        refine lv_goto (tgt := 128) hx hb d_Sp_find_66 (by decide) ?_
        exact w_Sp_find_15_128 o C0 q18 ih16 hi16 x1 x4 x5 x6 h H locs ls hw (lv_sub hl [1, 2, 3, 4, 5] rfl)
theorem w_Sp_find_15_16 {p : Program} {l : Launch} {e : Env} {s : State} {m : MethodId} {args : Array Value} {below : List Frame} {meth : Method} {c : Code} {D : va_G} {A : Nat → Prop} {ad : Nat → Nat} {ca : Nat → ClassId} (o : (Int32 × z_Sg)) (C0 : z_cx z_RSp b_Sp_find 9 (some .int) D (z_Kt ca) A p s m args meth c) (q : z_Sg) (x1 : Int64) (x4 : Int32) (x5 : Int32) (x6 : Int32) (h : k_Sp_find_15_16 x1 x4 x5 x6 q = some o) : ∀ (H : Heap) (locs : List Loc) (ls : Array Slot), z_wd D (z_K ad ca q) A s H locs → lv_has ls 9 [(0, .ref (ad 15)), (1, .long x1), (4, .int x4), (5, .int x5), (6, .int x6)] → W p l e (z_rm 2 61) s m args below meth c H locs 0 0 (z_qi below D (z_Kt ca) (z_K ad ca o.2) A s args o.1) (F0 m 16 ls []) := by
  have key : ∀ (n : Nat) (a : Int64 × Int32 × Int32 × Int32 × z_Sg), z_lo (fun ih16 a => kb_Sp_find_15_16 ih16 a.1 a.2.1 a.2.2.1 a.2.2.2.1 a.2.2.2.2) n a = some o → ∀ (H : Heap) (locs : List Loc) (ls : Array Slot), z_wd D (z_K ad ca a.2.2.2.2) A s H locs → lv_has ls 9 [(0, .ref (ad 15)), (1, .long a.1), (4, .int a.2.1), (5, .int a.2.2.1), (6, .int a.2.2.2.1)] → W p l e (z_rm 2 61) s m args below meth c H locs 0 0 (z_qi below D (z_Kt ca) (z_K ad ca o.2) A s args o.1) (F0 m 16 ls []) := by
    intro n
    induction n with
    | zero => intro a h; cases h
    | succ n ih => exact fun a h => wb_Sp_find_15_16 o C0 a.2.2.2.2 (z_lo (fun ih16 a => kb_Sp_find_15_16 ih16 a.1 a.2.1 a.2.2.1 a.2.2.2.1 a.2.2.2.2) n) ih a.1 a.2.1 a.2.2.1 a.2.2.2.1 h
  exact key 2000 (x1, x4, x5, x6, q) h
set_option maxHeartbeats 4000000 in
set_option maxRecDepth 100000 in
theorem c_Sp_find_15 {l : Launch} {D : va_G} {ad : Nat → Nat} {ca : Nat → ClassId} (x1 : Int64) (x3 : Int32) (x4 : Int32) (x5 : Int32) (q : z_Sg) (o : (Int32 × z_Sg)) (h : f_Sp_find_15 x1 x3 x4 x5 q = some o) : z_ci l y_Sp_find b_Sp_find 9 (some .int) 2 61 D (z_Kt ca) (z_K ad ca q) (z_K ad ca o.2) [.ref (ad 15), .long x1, .int x3, .int x4, .int x5] o.1 := by
  refine z_ci_of (own := z_RSp) (by decide) rfl ?_
  intro p e s m below meth c A C0 hw
  obtain ⟨hx, hb, hr, hlk, hml, hown, hts, hK, hA⟩ := id C0
  generalize hH : s.heap = H at hw ⊢
  generalize hlo : ([] : List Loc) = locs at hw ⊢
  refine z_entry (lv := [(0, .ref (ad 15)), (1, .long x1), (3, .int x3), (4, .int x4), (5, .int x5)]) (Nat.le_of_ble_eq_true rfl) rfl (fun ls hl => ?_)
  unfold f_Sp_find_15 at h
  refine lv_aload_n hx hb d_Sp_find_0 rfl (lv_at hl 0 rfl) ?_
  refine lv_iload_n hx hb d_Sp_find_1 rfl (lv_at hl 2 rfl) ?_
  refine lv_aload_n hx hb d_Sp_find_2 rfl (lv_at hl 0 rfl) ?_
  refine gfK_15_at C0 hw fl_Sp_9 d_Sp_find_3 ?_
  refine va_alen hx hb hK hw.1 16 4 rfl rfl (v := (8 : Int32)) rfl d_Sp_find_6 ?_
  obtain ⟨r1, er1, h⟩ := ok_b h
  refine z_si (rest := [.ref (ad 15)]) C0 hw (c_Ma_min x3 (8 : Int32) q r1 er1) mw_Ma_min ml_Sp_19 ⟨Nat.le_of_ble_eq_true rfl, Nat.le_of_ble_eq_true rfl⟩ ⟨Nat.le_refl 0, Nat.le_refl 0⟩ rfl hl.1 rfl (Nat.le_of_ble_eq_true rfl) d_Sp_find_7 (fun H locs hw => ?_)
  refine pfK_15_length C0 hw fl_Sp_25 d_Sp_find_10 (fun H locs hw => ?_)
  obtain ⟨q2, eq2, h⟩ := ok_n h
  rw [← eq2] at hw
  refine lv_iconst (v := (0 : Int32)) hx hb d_Sp_find_13 (by decide) ?_
  refine lv_istore (lv' := [(6, .int (0 : Int32)), (0, .ref (ad 15)), (1, .long x1), (3, .int x3), (4, .int x4), (5, .int x5)]) hx hb d_Sp_find_14 hl (by decide) rfl (fun ls hl => ?_)
  exact w_Sp_find_15_16 o C0 q2 x1 x4 x5 (0 : Int32) h H locs ls hw (lv_sub hl [1, 2, 4, 5, 0] rfl)
def k_Sr_executeOnce_240 (t1 : Int32) (t2 : Int64) (t3 : Int64) (q : z_Sg) : Option (Int32 × z_Sg) :=
  if z_bad t1 16 then none else (z_nm (z_sM q 0 t1.toNatClampNeg (t2 + t3)) (fun q18 => some ((-1 : Int32), q18)))
def k_Sr_executeOnce_216 (x4 : Int32) (x7 : Int64) (t1 : Int32) (t2 : Int64) (t3 : Int64) (q : z_Sg) : Option (Int32 × z_Sg) :=
  if z_bad t1 16 then none else (z_nm (z_sM q 0 t1.toNatClampNeg (t2 + t3)) (fun q14 => if z_bad (7 : Int32) 16 then none else (if x4 = 0 then (k_Sr_executeOnce_240 (7 : Int32) (z_gM q14 0 (7 : Int32).toNatClampNeg) (0 : Int64) q14) else (k_Sr_executeOnce_240 (7 : Int32) (z_gM q14 0 (7 : Int32).toNatClampNeg) x7 q14))))
def k_Sr_executeOnce_193 (x3 : Int32) (x4 : Int32) (t0 : Int64) (q : z_Sg) : Option (Int32 × z_Sg) :=
  if z_bad (6 : Int32) 16 then none else (if x3 = 0 then (k_Sr_executeOnce_216 x4 t0 (6 : Int32) (z_gM q 0 (6 : Int32).toNatClampNeg) (0 : Int64) q) else (k_Sr_executeOnce_216 x4 t0 (6 : Int32) (z_gM q 0 (6 : Int32).toNatClampNeg) t0 q))
def k_Sr_executeOnce_167 (x2 : Int32) (x3 : Int32) (x4 : Int32) (t1 : Int32) (t2 : Int64) (q : z_Sg) : Option (Int32 × z_Sg) :=
  (f_Sr_use t1 t2 x2 q).bind (fun r9 => if ((z_gI r9 0) &&& (1024 : Int32)) = 0 then (k_Sr_executeOnce_193 x3 x4 (x2.toInt64) r9) else (k_Sr_executeOnce_193 x3 x4 ((-x2).toInt64) r9))
def k_Sr_executeOnce_133 (x1 : Int32) (x2 : Int32) (x3 : Int32) (x4 : Int32) (x6 : Int32) (q : z_Sg) : Option (Int32 × z_Sg) :=
  if x6 = (-1 : Int32) then (if x3 = 0 then ((f_Op_part (0 : Int32) x2 q).bind (fun r8 => k_Sr_executeOnce_167 x2 x3 x4 x1 r8 q)) else ((f_Sp_value_15 q).bind (fun r19 => k_Sr_executeOnce_167 x2 x3 x4 x1 r19 q))) else (some (x6, q))
def k_Sr_executeOnce_127 (x1 : Int32) (x2 : Int32) (x3 : Int32) (x4 : Int32) (t1 : Int64) (t2 : Int32) (t3 : Int32) (q : z_Sg) : Option (Int32 × z_Sg) :=
  (f_Sp_find_17 t1 t2 t3 (0 : Int32) q).bind (fun r23 => k_Sr_executeOnce_133 x1 x2 x3 x4 r23.1 r23.2)
def k_Sr_executeOnce_91 (x1 : Int32) (x2 : Int32) (x3 : Int32) (x4 : Int32) (x5 : Int32) (x6 : Int32) (q : z_Sg) : Option (Int32 × z_Sg) :=
  if x4 = 0 then (k_Sr_executeOnce_133 x1 x2 x3 x4 x6 q) else (if x6 = (-1 : Int32) then (if z_bad (7 : Int32) 16 then none else (if x5 = 0 then (k_Sr_executeOnce_127 x1 x2 x3 x4 (z_gM q 0 (7 : Int32).toNatClampNeg) x2 (0 : Int32) q) else (k_Sr_executeOnce_127 x1 x2 x3 x4 (z_gM q 0 (7 : Int32).toNatClampNeg) x2 (1 : Int32) q))) else (k_Sr_executeOnce_133 x1 x2 x3 x4 x6 q))
def k_Sr_executeOnce_60 (x1 : Int32) (x2 : Int32) (x3 : Int32) (x4 : Int32) (t0 : Int32) (q : z_Sg) : Option (Int32 × z_Sg) :=
  if x3 = 0 then (k_Sr_executeOnce_91 x1 x2 x3 x4 t0 (-1 : Int32) q) else (if z_bad (6 : Int32) 16 then none else ((f_Sp_find_15 (z_gM q 0 (6 : Int32).toNatClampNeg) x2 (0 : Int32) (0 : Int32) q).bind (fun r25 => k_Sr_executeOnce_91 x1 x2 x3 x4 t0 r25.1 r25.2)))
def k_Sr_executeOnce_55 (x1 : Int32) (x2 : Int32) (x3 : Int32) (x4 : Int32) (q : z_Sg) : Option (Int32 × z_Sg) :=
  k_Sr_executeOnce_60 x1 x2 x3 x4 (1 : Int32) q
def k_Sr_executeOnce_39 (x1 : Int32) (x2 : Int32) (x3 : Int32) (t0 : Int32) (q : z_Sg) : Option (Int32 × z_Sg) :=
  if x1 = (164 : Int32) then (k_Sr_executeOnce_55 x1 x2 x3 t0 q) else (if x1 = (170 : Int32) then (k_Sr_executeOnce_55 x1 x2 x3 t0 q) else (k_Sr_executeOnce_60 x1 x2 x3 t0 (0 : Int32) q))
def k_Sr_executeOnce_26 (x1 : Int32) (x2 : Int32) (t0 : Int32) (q : z_Sg) : Option (Int32 × z_Sg) :=
  if x1 = (172 : Int32) then (k_Sr_executeOnce_39 x1 x2 t0 (0 : Int32) q) else (k_Sr_executeOnce_39 x1 x2 t0 (1 : Int32) q)
def k_Sr_executeOnce_21 (x1 : Int32) (x2 : Int32) (q : z_Sg) : Option (Int32 × z_Sg) :=
  k_Sr_executeOnce_26 x1 x2 (1 : Int32) q
def f_Sr_executeOnce (x1 : Int32) (x2 : Int32) (q : z_Sg) : Option (Int32 × z_Sg) :=
  if x1 = (164 : Int32) then (k_Sr_executeOnce_21 x1 x2 q) else (if x1 = (166 : Int32) then (k_Sr_executeOnce_21 x1 x2 q) else (if x1 = (172 : Int32) then (k_Sr_executeOnce_21 x1 x2 q) else (k_Sr_executeOnce_26 x1 x2 (0 : Int32) q)))
set_option maxHeartbeats 4000000 in
set_option maxRecDepth 100000 in
theorem w_Sr_executeOnce_240 {p : Program} {l : Launch} {e : Env} {s : State} {m : MethodId} {args : Array Value} {below : List Frame} {meth : Method} {c : Code} {D : va_G} {A : Nat → Prop} {ad : Nat → Nat} {ca : Nat → ClassId} (o : (Int32 × z_Sg)) (C0 : z_cx z_RSr b_Sr_executeOnce 9 (some .int) D (z_Kt ca) A p s m args meth c) (q : z_Sg) (t1 : Int32) (t2 : Int64) (t3 : Int64) (h : k_Sr_executeOnce_240 t1 t2 t3 q = some o) : ∀ (H : Heap) (locs : List Loc) (ls : Array Slot), z_wd D (z_K ad ca q) A s H locs → lv_has ls 9 [] → W p l e (z_rm 4 110) s m args below meth c H locs 0 0 (z_qi below D (z_Kt ca) (z_K ad ca o.2) A s args o.1) (F0 m 240 ls [.long t3, .long t2, .int t1, .ref (ad 2)]) := by
  obtain ⟨hx, hb, hr, hlk, hml, hown, hts, hK, hA⟩ := id C0
  intro H locs ls hw hl
  refine lv_ladd hx hb d_Sr_executeOnce_240 ?_
  obtain ⟨b17, h⟩ := ok_g h
  refine asK_2 C0 hw b17 d_Sr_executeOnce_241 (fun H locs hw => ?_)
  obtain ⟨q18, eq18, h⟩ := ok_n h
  rw [← eq18] at hw
  refine lv_iconst (v := (-1 : Int32)) hx hb d_Sr_executeOnce_242 (by decide) ?_
  have ho := Option.some.inj h
  subst ho
  exact z_rti C0 hw d_Sr_executeOnce_243
set_option maxHeartbeats 4000000 in
set_option maxRecDepth 100000 in
theorem w_Sr_executeOnce_216 {p : Program} {l : Launch} {e : Env} {s : State} {m : MethodId} {args : Array Value} {below : List Frame} {meth : Method} {c : Code} {D : va_G} {A : Nat → Prop} {ad : Nat → Nat} {ca : Nat → ClassId} (o : (Int32 × z_Sg)) (C0 : z_cx z_RSr b_Sr_executeOnce 9 (some .int) D (z_Kt ca) A p s m args meth c) (q : z_Sg) (x4 : Int32) (x7 : Int64) (t1 : Int32) (t2 : Int64) (t3 : Int64) (h : k_Sr_executeOnce_216 x4 x7 t1 t2 t3 q = some o) : ∀ (H : Heap) (locs : List Loc) (ls : Array Slot), z_wd D (z_K ad ca q) A s H locs → lv_has ls 9 [(0, .ref (ad 14)), (4, .int x4), (7, .long x7)] → W p l e (z_rm 4 110) s m args below meth c H locs 0 0 (z_qi below D (z_Kt ca) (z_K ad ca o.2) A s args o.1) (F0 m 216 ls [.long t3, .long t2, .int t1, .ref (ad 2)]) := by
  obtain ⟨hx, hb, hr, hlk, hml, hown, hts, hK, hA⟩ := id C0
  intro H locs ls hw hl
  refine lv_ladd hx hb d_Sr_executeOnce_216 ?_
  obtain ⟨b13, h⟩ := ok_g h
  refine asK_2 C0 hw b13 d_Sr_executeOnce_217 (fun H locs hw => ?_)
  obtain ⟨q14, eq14, h⟩ := ok_n h
  rw [← eq14] at hw
  refine lv_aload_n hx hb d_Sr_executeOnce_218 rfl (lv_at hl 0 rfl) ?_
  refine gfK_14_state C0 hw fl_Sr_9 d_Sr_executeOnce_219 ?_
  refine gfK_1_registers C0 hw fl_Sr_43 d_Sr_executeOnce_222 ?_
  refine lv_bipush (v := (7 : Int32)) hx hb d_Sr_executeOnce_225 (by decide) ?_
  refine lv_dup2_11 hx hb d_Sr_executeOnce_227 rfl rfl ?_
  obtain ⟨b15, h⟩ := ok_g h
  refine alK_2 C0 hw b15 d_Sr_executeOnce_228 ?_
  refine lv_iload hx hb d_Sr_executeOnce_229 (lv_at hl 1 rfl) ?_
  refine lv_if_eq (tgt := 239) hx hb d_Sr_executeOnce_231 (by decide) (fun c16 => ?_) (fun c16 => ?_)
  · have h := ok_t h c16
    refine lv_lconst (v := (0 : Int64)) hx hb d_Sr_executeOnce_239 (by decide) ?_
    exact w_Sr_executeOnce_240 o C0 q14 (7 : Int32) (z_gM q14 0 (7 : Int32).toNatClampNeg) (0 : Int64) h H locs ls hw (lv_sub hl [] rfl)
  · have h := ok_f h c16
    refine lv_lload hx hb d_Sr_executeOnce_234 (lv_at hl 2 rfl) ?_
    refine lv_goto (tgt := 240) hx hb d_Sr_executeOnce_236 (by decide) ?_
    exact w_Sr_executeOnce_240 o C0 q14 (7 : Int32) (z_gM q14 0 (7 : Int32).toNatClampNeg) x7 h H locs ls hw (lv_sub hl [] rfl)
set_option maxHeartbeats 4000000 in
set_option maxRecDepth 100000 in
theorem w_Sr_executeOnce_193 {p : Program} {l : Launch} {e : Env} {s : State} {m : MethodId} {args : Array Value} {below : List Frame} {meth : Method} {c : Code} {D : va_G} {A : Nat → Prop} {ad : Nat → Nat} {ca : Nat → ClassId} (o : (Int32 × z_Sg)) (C0 : z_cx z_RSr b_Sr_executeOnce 9 (some .int) D (z_Kt ca) A p s m args meth c) (q : z_Sg) (x3 : Int32) (x4 : Int32) (t0 : Int64) (h : k_Sr_executeOnce_193 x3 x4 t0 q = some o) : ∀ (H : Heap) (locs : List Loc) (ls : Array Slot), z_wd D (z_K ad ca q) A s H locs → lv_has ls 9 [(0, .ref (ad 14)), (3, .int x3), (4, .int x4)] → W p l e (z_rm 4 110) s m args below meth c H locs 0 0 (z_qi below D (z_Kt ca) (z_K ad ca o.2) A s args o.1) (F0 m 193 ls [.long t0]) := by
  obtain ⟨hx, hb, hr, hlk, hml, hown, hts, hK, hA⟩ := id C0
  intro H locs ls hw hl
  refine lv_lstore (lv' := [(7, .long t0), (0, .ref (ad 14)), (3, .int x3), (4, .int x4)]) hx hb d_Sr_executeOnce_193 hl (by decide) rfl (fun ls hl => ?_)
  refine lv_aload_n hx hb d_Sr_executeOnce_195 rfl (lv_at hl 1 rfl) ?_
  refine gfK_14_state C0 hw fl_Sr_9 d_Sr_executeOnce_196 ?_
  refine gfK_1_registers C0 hw fl_Sr_43 d_Sr_executeOnce_199 ?_
  refine lv_bipush (v := (6 : Int32)) hx hb d_Sr_executeOnce_202 (by decide) ?_
  refine lv_dup2_11 hx hb d_Sr_executeOnce_204 rfl rfl ?_
  obtain ⟨b11, h⟩ := ok_g h
  refine alK_2 C0 hw b11 d_Sr_executeOnce_205 ?_
  refine lv_iload_n hx hb d_Sr_executeOnce_206 rfl (lv_at hl 2 rfl) ?_
  refine lv_if_eq (tgt := 215) hx hb d_Sr_executeOnce_207 (by decide) (fun c12 => ?_) (fun c12 => ?_)
  · have h := ok_t h c12
    refine lv_lconst (v := (0 : Int64)) hx hb d_Sr_executeOnce_215 (by decide) ?_
    exact w_Sr_executeOnce_216 o C0 q x4 t0 (6 : Int32) (z_gM q 0 (6 : Int32).toNatClampNeg) (0 : Int64) h H locs ls hw (lv_sub hl [1, 3, 0] rfl)
  · have h := ok_f h c12
    refine lv_lload hx hb d_Sr_executeOnce_210 (lv_at hl 0 rfl) ?_
    refine lv_goto (tgt := 216) hx hb d_Sr_executeOnce_212 (by decide) ?_
    exact w_Sr_executeOnce_216 o C0 q x4 t0 (6 : Int32) (z_gM q 0 (6 : Int32).toNatClampNeg) t0 h H locs ls hw (lv_sub hl [1, 3, 0] rfl)
set_option maxHeartbeats 4000000 in
set_option maxRecDepth 100000 in
theorem w_Sr_executeOnce_167 {p : Program} {l : Launch} {e : Env} {s : State} {m : MethodId} {args : Array Value} {below : List Frame} {meth : Method} {c : Code} {D : va_G} {A : Nat → Prop} {ad : Nat → Nat} {ca : Nat → ClassId} (o : (Int32 × z_Sg)) (C0 : z_cx z_RSr b_Sr_executeOnce 9 (some .int) D (z_Kt ca) A p s m args meth c) (q : z_Sg) (x2 : Int32) (x3 : Int32) (x4 : Int32) (t1 : Int32) (t2 : Int64) (h : k_Sr_executeOnce_167 x2 x3 x4 t1 t2 q = some o) : ∀ (H : Heap) (locs : List Loc) (ls : Array Slot), z_wd D (z_K ad ca q) A s H locs → lv_has ls 9 [(0, .ref (ad 14)), (2, .int x2), (3, .int x3), (4, .int x4)] → W p l e (z_rm 4 110) s m args below meth c H locs 0 0 (z_qi below D (z_Kt ca) (z_K ad ca o.2) A s args o.1) (F0 m 167 ls [.long t2, .int t1, .ref (ad 14)]) := by
  obtain ⟨hx, hb, hr, hlk, hml, hown, hts, hK, hA⟩ := id C0
  intro H locs ls hw hl
  refine lv_iload_n hx hb d_Sr_executeOnce_167 rfl (lv_at hl 1 rfl) ?_
  obtain ⟨r9, er9, h⟩ := ok_b h
  refine z_vv (rest := []) C0 hw (c_Sr_use t1 t2 x2 q r9 er9) mw_Sr_use ml_Sr_87 14 rfl ⟨Nat.le_of_ble_eq_true rfl, Nat.le_of_ble_eq_true rfl⟩ ⟨Nat.le_refl 0, Nat.le_refl 0⟩ rfl hl.1 rfl (Nat.le_of_ble_eq_true rfl) d_Sr_executeOnce_168 (fun H locs hw => ?_)
  refine lv_aload_n hx hb d_Sr_executeOnce_171 rfl (lv_at hl 0 rfl) ?_
  refine gfK_14_state C0 hw fl_Sr_9 d_Sr_executeOnce_172 ?_
  refine gfK_1_flags C0 hw fl_Sr_68 d_Sr_executeOnce_175 ?_
  refine lv_sipush (v := (1024 : Int32)) hx hb d_Sr_executeOnce_178 (by decide) ?_
  refine lv_iand hx hb d_Sr_executeOnce_181 ?_
  refine lv_if_eq (tgt := 191) hx hb d_Sr_executeOnce_182 (by decide) (fun c10 => ?_) (fun c10 => ?_)
  · have h := ok_t h c10
    refine lv_iload_n hx hb d_Sr_executeOnce_191 rfl (lv_at hl 1 rfl) ?_
    refine lv_i2l hx hb d_Sr_executeOnce_192 rfl ?_
    exact w_Sr_executeOnce_193 o C0 r9 x3 x4 (x2.toInt64) h H locs ls hw (lv_sub hl [0, 2, 3] rfl)
  · have h := ok_f h c10
    refine lv_iload_n hx hb d_Sr_executeOnce_185 rfl (lv_at hl 1 rfl) ?_
    refine lv_ineg hx hb d_Sr_executeOnce_186 ?_
    refine lv_i2l hx hb d_Sr_executeOnce_187 rfl ?_
    refine lv_goto (tgt := 193) hx hb d_Sr_executeOnce_188 (by decide) ?_
    exact w_Sr_executeOnce_193 o C0 r9 x3 x4 ((-x2).toInt64) h H locs ls hw (lv_sub hl [0, 2, 3] rfl)
set_option maxHeartbeats 4000000 in
set_option maxRecDepth 100000 in
theorem w_Sr_executeOnce_133 {p : Program} {l : Launch} {e : Env} {s : State} {m : MethodId} {args : Array Value} {below : List Frame} {meth : Method} {c : Code} {D : va_G} {A : Nat → Prop} {ad : Nat → Nat} {ca : Nat → ClassId} (o : (Int32 × z_Sg)) (C0 : z_cx z_RSr b_Sr_executeOnce 9 (some .int) D (z_Kt ca) A p s m args meth c) (q : z_Sg) (x1 : Int32) (x2 : Int32) (x3 : Int32) (x4 : Int32) (x6 : Int32) (h : k_Sr_executeOnce_133 x1 x2 x3 x4 x6 q = some o) : ∀ (H : Heap) (locs : List Loc) (ls : Array Slot), z_wd D (z_K ad ca q) A s H locs → lv_has ls 9 [(0, .ref (ad 14)), (1, .int x1), (2, .int x2), (3, .int x3), (4, .int x4), (6, .int x6)] → W p l e (z_rm 4 110) s m args below meth c H locs 0 0 (z_qi below D (z_Kt ca) (z_K ad ca o.2) A s args o.1) (F0 m 133 ls []) := by
  obtain ⟨hx, hb, hr, hlk, hml, hown, hts, hK, hA⟩ := id C0
  intro H locs ls hw hl
  refine lv_iload hx hb d_Sr_executeOnce_133 (lv_at hl 5 rfl) ?_
  refine lv_iconst (v := (-1 : Int32)) hx hb d_Sr_executeOnce_135 (by decide) ?_
  refine lv_icmp_eq (tgt := 142) hx hb d_Sr_executeOnce_136 (by decide) (fun c6 => ?_) (fun c6 => ?_)
  · have h := ok_t h c6
    refine lv_aload_n hx hb d_Sr_executeOnce_142 rfl (lv_at hl 0 rfl) ?_
    refine lv_iload_n hx hb d_Sr_executeOnce_143 rfl (lv_at hl 1 rfl) ?_
    refine lv_iload_n hx hb d_Sr_executeOnce_144 rfl (lv_at hl 3 rfl) ?_
    refine lv_if_eq (tgt := 158) hx hb d_Sr_executeOnce_145 (by decide) (fun c7 => ?_) (fun c7 => ?_)
    · have h := ok_t h c7
      refine lv_aload_n hx hb d_Sr_executeOnce_158 rfl (lv_at hl 0 rfl) ?_
      refine gfK_14_operands C0 hw fl_Sr_19 d_Sr_executeOnce_159 ?_
      refine lv_iconst (v := (0 : Int32)) hx hb d_Sr_executeOnce_162 (by decide) ?_
      refine lv_iload_n hx hb d_Sr_executeOnce_163 rfl (lv_at hl 2 rfl) ?_
      obtain ⟨r8, er8, h⟩ := ok_b h
      refine z_vl (rest := [.int x1, .ref (ad 14)]) C0 hw (c_Op_part (0 : Int32) x2 q r8 er8) mw_Op_part ml_Sr_81 6 rfl ⟨Nat.le_of_ble_eq_true rfl, Nat.le_of_ble_eq_true rfl⟩ ⟨Nat.le_refl 0, Nat.le_refl 0⟩ rfl hl.1 rfl (Nat.le_of_ble_eq_true rfl) d_Sr_executeOnce_164 (fun H locs hw => ?_)
      exact w_Sr_executeOnce_167 o C0 q x2 x3 x4 x1 r8 h H locs ls hw (lv_sub hl [0, 2, 3, 4] rfl)
    · have h := ok_f h c7
      refine lv_aload_n hx hb d_Sr_executeOnce_148 rfl (lv_at hl 0 rfl) ?_
      refine gfK_14_source C0 hw fl_Sr_27 d_Sr_executeOnce_149 ?_
      obtain ⟨r19, er19, h⟩ := ok_b h
      refine z_vl (rest := [.int x1, .ref (ad 14)]) C0 hw (c_Sp_value_15 q r19 er19) mw_Sp_value ml_Sr_77 15 rfl ⟨Nat.le_of_ble_eq_true rfl, Nat.le_of_ble_eq_true rfl⟩ ⟨Nat.le_refl 0, Nat.le_refl 0⟩ rfl hl.1 rfl (Nat.le_of_ble_eq_true rfl) d_Sr_executeOnce_152 (fun H locs hw => ?_)
      refine lv_goto (tgt := 167) hx hb d_Sr_executeOnce_155 (by decide) ?_
      exact w_Sr_executeOnce_167 o C0 q x2 x3 x4 x1 r19 h H locs ls hw (lv_sub hl [0, 2, 3, 4] rfl)
  · have h := ok_f h c6
    refine lv_iload hx hb d_Sr_executeOnce_139 (lv_at hl 5 rfl) ?_
    have ho := Option.some.inj h
    subst ho
    exact z_rti C0 hw d_Sr_executeOnce_141
set_option maxHeartbeats 4000000 in
set_option maxRecDepth 100000 in
theorem w_Sr_executeOnce_127 {p : Program} {l : Launch} {e : Env} {s : State} {m : MethodId} {args : Array Value} {below : List Frame} {meth : Method} {c : Code} {D : va_G} {A : Nat → Prop} {ad : Nat → Nat} {ca : Nat → ClassId} (o : (Int32 × z_Sg)) (C0 : z_cx z_RSr b_Sr_executeOnce 9 (some .int) D (z_Kt ca) A p s m args meth c) (q : z_Sg) (x1 : Int32) (x2 : Int32) (x3 : Int32) (x4 : Int32) (t1 : Int64) (t2 : Int32) (t3 : Int32) (h : k_Sr_executeOnce_127 x1 x2 x3 x4 t1 t2 t3 q = some o) : ∀ (H : Heap) (locs : List Loc) (ls : Array Slot), z_wd D (z_K ad ca q) A s H locs → lv_has ls 9 [(0, .ref (ad 14)), (1, .int x1), (2, .int x2), (3, .int x3), (4, .int x4)] → W p l e (z_rm 4 110) s m args below meth c H locs 0 0 (z_qi below D (z_Kt ca) (z_K ad ca o.2) A s args o.1) (F0 m 127 ls [.int t3, .int t2, .long t1, .ref (ad 17)]) := by
  obtain ⟨hx, hb, hr, hlk, hml, hown, hts, hK, hA⟩ := id C0
  intro H locs ls hw hl
  refine lv_iconst (v := (0 : Int32)) hx hb d_Sr_executeOnce_127 (by decide) ?_
  obtain ⟨r23, er23, h⟩ := ok_b h
  refine z_vi (rest := []) C0 hw (c_Sp_find_17 t1 t2 t3 (0 : Int32) q r23 er23) mw_Sp_find ml_Sr_71 17 rfl ⟨Nat.le_of_ble_eq_true rfl, Nat.le_of_ble_eq_true rfl⟩ ⟨Nat.le_refl 0, Nat.le_refl 0⟩ rfl hl.1 rfl (Nat.le_of_ble_eq_true rfl) d_Sr_executeOnce_128 (fun H locs hw => ?_)
  refine lv_istore (lv' := [(6, .int r23.1), (0, .ref (ad 14)), (1, .int x1), (2, .int x2), (3, .int x3), (4, .int x4)]) hx hb d_Sr_executeOnce_131 hl (by decide) rfl (fun ls hl => ?_)
  exact w_Sr_executeOnce_133 o C0 r23.2 x1 x2 x3 x4 r23.1 h H locs ls hw (lv_sub hl [1, 2, 3, 4, 5, 0] rfl)
set_option maxHeartbeats 4000000 in
set_option maxRecDepth 100000 in
theorem w_Sr_executeOnce_91 {p : Program} {l : Launch} {e : Env} {s : State} {m : MethodId} {args : Array Value} {below : List Frame} {meth : Method} {c : Code} {D : va_G} {A : Nat → Prop} {ad : Nat → Nat} {ca : Nat → ClassId} (o : (Int32 × z_Sg)) (C0 : z_cx z_RSr b_Sr_executeOnce 9 (some .int) D (z_Kt ca) A p s m args meth c) (q : z_Sg) (x1 : Int32) (x2 : Int32) (x3 : Int32) (x4 : Int32) (x5 : Int32) (x6 : Int32) (h : k_Sr_executeOnce_91 x1 x2 x3 x4 x5 x6 q = some o) : ∀ (H : Heap) (locs : List Loc) (ls : Array Slot), z_wd D (z_K ad ca q) A s H locs → lv_has ls 9 [(0, .ref (ad 14)), (1, .int x1), (2, .int x2), (3, .int x3), (4, .int x4), (5, .int x5), (6, .int x6)] → W p l e (z_rm 4 110) s m args below meth c H locs 0 0 (z_qi below D (z_Kt ca) (z_K ad ca o.2) A s args o.1) (F0 m 91 ls []) := by
  obtain ⟨hx, hb, hr, hlk, hml, hown, hts, hK, hA⟩ := id C0
  intro H locs ls hw hl
  refine lv_iload hx hb d_Sr_executeOnce_91 (lv_at hl 4 rfl) ?_
  refine lv_if_eq (tgt := 133) hx hb d_Sr_executeOnce_93 (by decide) (fun c5 => ?_) (fun c5 => ?_)
  · have h := ok_t h c5
    exact w_Sr_executeOnce_133 o C0 q x1 x2 x3 x4 x6 h H locs ls hw (lv_sub hl [0, 1, 2, 3, 4, 6] rfl)
  · have h := ok_f h c5
    refine lv_iload hx hb d_Sr_executeOnce_96 (lv_at hl 6 rfl) ?_
    refine lv_iconst (v := (-1 : Int32)) hx hb d_Sr_executeOnce_98 (by decide) ?_
    refine lv_icmp_ne (tgt := 133) hx hb d_Sr_executeOnce_99 (by decide) (fun c20 => ?_) (fun c20 => ?_)
    · have h := ok_f h c20
      exact w_Sr_executeOnce_133 o C0 q x1 x2 x3 x4 x6 h H locs ls hw (lv_sub hl [0, 1, 2, 3, 4, 6] rfl)
    · have h := ok_t h c20
      refine lv_aload_n hx hb d_Sr_executeOnce_102 rfl (lv_at hl 0 rfl) ?_
      refine gfK_14_goal C0 hw fl_Sr_31 d_Sr_executeOnce_103 ?_
      refine lv_aload_n hx hb d_Sr_executeOnce_106 rfl (lv_at hl 0 rfl) ?_
      refine gfK_14_state C0 hw fl_Sr_9 d_Sr_executeOnce_107 ?_
      refine gfK_1_registers C0 hw fl_Sr_43 d_Sr_executeOnce_110 ?_
      refine lv_bipush (v := (7 : Int32)) hx hb d_Sr_executeOnce_113 (by decide) ?_
      obtain ⟨b21, h⟩ := ok_g h
      refine alK_2 C0 hw b21 d_Sr_executeOnce_115 ?_
      refine lv_iload_n hx hb d_Sr_executeOnce_116 rfl (lv_at hl 2 rfl) ?_
      refine lv_iload hx hb d_Sr_executeOnce_117 (lv_at hl 5 rfl) ?_
      refine lv_if_eq (tgt := 126) hx hb d_Sr_executeOnce_119 (by decide) (fun c22 => ?_) (fun c22 => ?_)
      · have h := ok_t h c22
        refine lv_iconst (v := (0 : Int32)) hx hb d_Sr_executeOnce_126 (by decide) ?_
        exact w_Sr_executeOnce_127 o C0 q x1 x2 x3 x4 (z_gM q 0 (7 : Int32).toNatClampNeg) x2 (0 : Int32) h H locs ls hw (lv_sub hl [0, 1, 2, 3, 4] rfl)
      · have h := ok_f h c22
        refine lv_iconst (v := (1 : Int32)) hx hb d_Sr_executeOnce_122 (by decide) ?_
        refine lv_goto (tgt := 127) hx hb d_Sr_executeOnce_123 (by decide) ?_
        exact w_Sr_executeOnce_127 o C0 q x1 x2 x3 x4 (z_gM q 0 (7 : Int32).toNatClampNeg) x2 (1 : Int32) h H locs ls hw (lv_sub hl [0, 1, 2, 3, 4] rfl)
set_option maxHeartbeats 4000000 in
set_option maxRecDepth 100000 in
theorem w_Sr_executeOnce_60 {p : Program} {l : Launch} {e : Env} {s : State} {m : MethodId} {args : Array Value} {below : List Frame} {meth : Method} {c : Code} {D : va_G} {A : Nat → Prop} {ad : Nat → Nat} {ca : Nat → ClassId} (o : (Int32 × z_Sg)) (C0 : z_cx z_RSr b_Sr_executeOnce 9 (some .int) D (z_Kt ca) A p s m args meth c) (q : z_Sg) (x1 : Int32) (x2 : Int32) (x3 : Int32) (x4 : Int32) (t0 : Int32) (h : k_Sr_executeOnce_60 x1 x2 x3 x4 t0 q = some o) : ∀ (H : Heap) (locs : List Loc) (ls : Array Slot), z_wd D (z_K ad ca q) A s H locs → lv_has ls 9 [(0, .ref (ad 14)), (1, .int x1), (2, .int x2), (3, .int x3), (4, .int x4)] → W p l e (z_rm 4 110) s m args below meth c H locs 0 0 (z_qi below D (z_Kt ca) (z_K ad ca o.2) A s args o.1) (F0 m 60 ls [.int t0]) := by
  obtain ⟨hx, hb, hr, hlk, hml, hown, hts, hK, hA⟩ := id C0
  intro H locs ls hw hl
  refine lv_istore (lv' := [(5, .int t0), (0, .ref (ad 14)), (1, .int x1), (2, .int x2), (3, .int x3), (4, .int x4)]) hx hb d_Sr_executeOnce_60 hl (by decide) rfl (fun ls hl => ?_)
  refine lv_iconst (v := (-1 : Int32)) hx hb d_Sr_executeOnce_62 (by decide) ?_
  refine lv_istore (lv' := [(6, .int (-1 : Int32)), (5, .int t0), (0, .ref (ad 14)), (1, .int x1), (2, .int x2), (3, .int x3), (4, .int x4)]) hx hb d_Sr_executeOnce_63 hl (by decide) rfl (fun ls hl => ?_)
  refine lv_iload_n hx hb d_Sr_executeOnce_65 rfl (lv_at hl 5 rfl) ?_
  refine lv_if_eq (tgt := 91) hx hb d_Sr_executeOnce_66 (by decide) (fun c4 => ?_) (fun c4 => ?_)
  · have h := ok_t h c4
    exact w_Sr_executeOnce_91 o C0 q x1 x2 x3 x4 t0 (-1 : Int32) h H locs ls hw (lv_sub hl [2, 3, 4, 5, 6, 1, 0] rfl)
  · have h := ok_f h c4
    refine lv_aload_n hx hb d_Sr_executeOnce_69 rfl (lv_at hl 2 rfl) ?_
    refine gfK_14_source C0 hw fl_Sr_27 d_Sr_executeOnce_70 ?_
    refine lv_aload_n hx hb d_Sr_executeOnce_73 rfl (lv_at hl 2 rfl) ?_
    refine gfK_14_state C0 hw fl_Sr_9 d_Sr_executeOnce_74 ?_
    refine gfK_1_registers C0 hw fl_Sr_43 d_Sr_executeOnce_77 ?_
    refine lv_bipush (v := (6 : Int32)) hx hb d_Sr_executeOnce_80 (by decide) ?_
    obtain ⟨b24, h⟩ := ok_g h
    refine alK_2 C0 hw b24 d_Sr_executeOnce_82 ?_
    refine lv_iload_n hx hb d_Sr_executeOnce_83 rfl (lv_at hl 4 rfl) ?_
    refine lv_iconst (v := (0 : Int32)) hx hb d_Sr_executeOnce_84 (by decide) ?_
    refine lv_iconst (v := (0 : Int32)) hx hb d_Sr_executeOnce_85 (by decide) ?_
    obtain ⟨r25, er25, h⟩ := ok_b h
    refine z_vi (rest := []) C0 hw (c_Sp_find_15 (z_gM q 0 (6 : Int32).toNatClampNeg) x2 (0 : Int32) (0 : Int32) q r25 er25) mw_Sp_find ml_Sr_71 15 rfl ⟨Nat.le_of_ble_eq_true rfl, Nat.le_of_ble_eq_true rfl⟩ ⟨Nat.le_refl 0, Nat.le_refl 0⟩ rfl hl.1 rfl (Nat.le_of_ble_eq_true rfl) d_Sr_executeOnce_86 (fun H locs hw => ?_)
    refine lv_istore (lv' := [(6, .int r25.1), (5, .int t0), (0, .ref (ad 14)), (1, .int x1), (2, .int x2), (3, .int x3), (4, .int x4)]) hx hb d_Sr_executeOnce_89 hl (by decide) rfl (fun ls hl => ?_)
    exact w_Sr_executeOnce_91 o C0 r25.2 x1 x2 x3 x4 t0 r25.1 h H locs ls hw (lv_sub hl [2, 3, 4, 5, 6, 1, 0] rfl)
set_option maxHeartbeats 4000000 in
set_option maxRecDepth 100000 in
theorem w_Sr_executeOnce_55 {p : Program} {l : Launch} {e : Env} {s : State} {m : MethodId} {args : Array Value} {below : List Frame} {meth : Method} {c : Code} {D : va_G} {A : Nat → Prop} {ad : Nat → Nat} {ca : Nat → ClassId} (o : (Int32 × z_Sg)) (C0 : z_cx z_RSr b_Sr_executeOnce 9 (some .int) D (z_Kt ca) A p s m args meth c) (q : z_Sg) (x1 : Int32) (x2 : Int32) (x3 : Int32) (x4 : Int32) (h : k_Sr_executeOnce_55 x1 x2 x3 x4 q = some o) : ∀ (H : Heap) (locs : List Loc) (ls : Array Slot), z_wd D (z_K ad ca q) A s H locs → lv_has ls 9 [(0, .ref (ad 14)), (1, .int x1), (2, .int x2), (3, .int x3), (4, .int x4)] → W p l e (z_rm 4 110) s m args below meth c H locs 0 0 (z_qi below D (z_Kt ca) (z_K ad ca o.2) A s args o.1) (F0 m 55 ls []) := by
  obtain ⟨hx, hb, hr, hlk, hml, hown, hts, hK, hA⟩ := id C0
  intro H locs ls hw hl
  refine lv_iconst (v := (1 : Int32)) hx hb d_Sr_executeOnce_55 (by decide) ?_
  refine lv_goto (tgt := 60) hx hb d_Sr_executeOnce_56 (by decide) ?_
  exact w_Sr_executeOnce_60 o C0 q x1 x2 x3 x4 (1 : Int32) h H locs ls hw (lv_sub hl [0, 1, 2, 3, 4] rfl)
set_option maxHeartbeats 4000000 in
set_option maxRecDepth 100000 in
theorem w_Sr_executeOnce_39 {p : Program} {l : Launch} {e : Env} {s : State} {m : MethodId} {args : Array Value} {below : List Frame} {meth : Method} {c : Code} {D : va_G} {A : Nat → Prop} {ad : Nat → Nat} {ca : Nat → ClassId} (o : (Int32 × z_Sg)) (C0 : z_cx z_RSr b_Sr_executeOnce 9 (some .int) D (z_Kt ca) A p s m args meth c) (q : z_Sg) (x1 : Int32) (x2 : Int32) (x3 : Int32) (t0 : Int32) (h : k_Sr_executeOnce_39 x1 x2 x3 t0 q = some o) : ∀ (H : Heap) (locs : List Loc) (ls : Array Slot), z_wd D (z_K ad ca q) A s H locs → lv_has ls 9 [(0, .ref (ad 14)), (1, .int x1), (2, .int x2), (3, .int x3)] → W p l e (z_rm 4 110) s m args below meth c H locs 0 0 (z_qi below D (z_Kt ca) (z_K ad ca o.2) A s args o.1) (F0 m 39 ls [.int t0]) := by
  obtain ⟨hx, hb, hr, hlk, hml, hown, hts, hK, hA⟩ := id C0
  intro H locs ls hw hl
  refine lv_istore (lv' := [(4, .int t0), (0, .ref (ad 14)), (1, .int x1), (2, .int x2), (3, .int x3)]) hx hb d_Sr_executeOnce_39 hl (by decide) rfl (fun ls hl => ?_)
  refine lv_iload_n hx hb d_Sr_executeOnce_41 rfl (lv_at hl 2 rfl) ?_
  refine lv_sipush (v := (164 : Int32)) hx hb d_Sr_executeOnce_42 (by decide) ?_
  refine lv_icmp_eq (tgt := 55) hx hb d_Sr_executeOnce_45 (by decide) (fun c3 => ?_) (fun c3 => ?_)
  · have h := ok_t h c3
    exact w_Sr_executeOnce_55 o C0 q x1 x2 x3 t0 h H locs ls hw (lv_sub hl [1, 2, 3, 4, 0] rfl)
  · have h := ok_f h c3
    refine lv_iload_n hx hb d_Sr_executeOnce_48 rfl (lv_at hl 2 rfl) ?_
    refine lv_sipush (v := (170 : Int32)) hx hb d_Sr_executeOnce_49 (by decide) ?_
    refine lv_icmp_ne (tgt := 59) hx hb d_Sr_executeOnce_52 (by decide) (fun c26 => ?_) (fun c26 => ?_)
    · have h := ok_f h c26
      refine lv_iconst (v := (0 : Int32)) hx hb d_Sr_executeOnce_59 (by decide) ?_
      exact w_Sr_executeOnce_60 o C0 q x1 x2 x3 t0 (0 : Int32) h H locs ls hw (lv_sub hl [1, 2, 3, 4, 0] rfl)
    · have h := ok_t h c26
      exact w_Sr_executeOnce_55 o C0 q x1 x2 x3 t0 h H locs ls hw (lv_sub hl [1, 2, 3, 4, 0] rfl)
set_option maxHeartbeats 4000000 in
set_option maxRecDepth 100000 in
theorem w_Sr_executeOnce_26 {p : Program} {l : Launch} {e : Env} {s : State} {m : MethodId} {args : Array Value} {below : List Frame} {meth : Method} {c : Code} {D : va_G} {A : Nat → Prop} {ad : Nat → Nat} {ca : Nat → ClassId} (o : (Int32 × z_Sg)) (C0 : z_cx z_RSr b_Sr_executeOnce 9 (some .int) D (z_Kt ca) A p s m args meth c) (q : z_Sg) (x1 : Int32) (x2 : Int32) (t0 : Int32) (h : k_Sr_executeOnce_26 x1 x2 t0 q = some o) : ∀ (H : Heap) (locs : List Loc) (ls : Array Slot), z_wd D (z_K ad ca q) A s H locs → lv_has ls 9 [(0, .ref (ad 14)), (1, .int x1), (2, .int x2)] → W p l e (z_rm 4 110) s m args below meth c H locs 0 0 (z_qi below D (z_Kt ca) (z_K ad ca o.2) A s args o.1) (F0 m 26 ls [.int t0]) := by
  obtain ⟨hx, hb, hr, hlk, hml, hown, hts, hK, hA⟩ := id C0
  intro H locs ls hw hl
  refine lv_istore_n (lv' := [(3, .int t0), (0, .ref (ad 14)), (1, .int x1), (2, .int x2)]) hx hb d_Sr_executeOnce_26 rfl hl (by decide) rfl (fun ls hl => ?_)
  refine lv_iload_n hx hb d_Sr_executeOnce_27 rfl (lv_at hl 2 rfl) ?_
  refine lv_sipush (v := (172 : Int32)) hx hb d_Sr_executeOnce_28 (by decide) ?_
  refine lv_icmp_eq (tgt := 38) hx hb d_Sr_executeOnce_31 (by decide) (fun c2 => ?_) (fun c2 => ?_)
  · have h := ok_t h c2
    refine lv_iconst (v := (0 : Int32)) hx hb d_Sr_executeOnce_38 (by decide) ?_
    exact w_Sr_executeOnce_39 o C0 q x1 x2 t0 (0 : Int32) h H locs ls hw (lv_sub hl [1, 2, 3, 0] rfl)
  · have h := ok_f h c2
    refine lv_iconst (v := (1 : Int32)) hx hb d_Sr_executeOnce_34 (by decide) ?_
    refine lv_goto (tgt := 39) hx hb d_Sr_executeOnce_35 (by decide) ?_
    exact w_Sr_executeOnce_39 o C0 q x1 x2 t0 (1 : Int32) h H locs ls hw (lv_sub hl [1, 2, 3, 0] rfl)
set_option maxHeartbeats 4000000 in
set_option maxRecDepth 100000 in
theorem w_Sr_executeOnce_21 {p : Program} {l : Launch} {e : Env} {s : State} {m : MethodId} {args : Array Value} {below : List Frame} {meth : Method} {c : Code} {D : va_G} {A : Nat → Prop} {ad : Nat → Nat} {ca : Nat → ClassId} (o : (Int32 × z_Sg)) (C0 : z_cx z_RSr b_Sr_executeOnce 9 (some .int) D (z_Kt ca) A p s m args meth c) (q : z_Sg) (x1 : Int32) (x2 : Int32) (h : k_Sr_executeOnce_21 x1 x2 q = some o) : ∀ (H : Heap) (locs : List Loc) (ls : Array Slot), z_wd D (z_K ad ca q) A s H locs → lv_has ls 9 [(0, .ref (ad 14)), (1, .int x1), (2, .int x2)] → W p l e (z_rm 4 110) s m args below meth c H locs 0 0 (z_qi below D (z_Kt ca) (z_K ad ca o.2) A s args o.1) (F0 m 21 ls []) := by
  obtain ⟨hx, hb, hr, hlk, hml, hown, hts, hK, hA⟩ := id C0
  intro H locs ls hw hl
  refine lv_iconst (v := (1 : Int32)) hx hb d_Sr_executeOnce_21 (by decide) ?_
  refine lv_goto (tgt := 26) hx hb d_Sr_executeOnce_22 (by decide) ?_
  exact w_Sr_executeOnce_26 o C0 q x1 x2 (1 : Int32) h H locs ls hw (lv_sub hl [0, 1, 2] rfl)
set_option maxHeartbeats 4000000 in
set_option maxRecDepth 100000 in
theorem c_Sr_executeOnce {l : Launch} {D : va_G} {ad : Nat → Nat} {ca : Nat → ClassId} (x1 : Int32) (x2 : Int32) (q : z_Sg) (o : (Int32 × z_Sg)) (h : f_Sr_executeOnce x1 x2 q = some o) : z_ci l y_Sr_executeOnce b_Sr_executeOnce 9 (some .int) 4 110 D (z_Kt ca) (z_K ad ca q) (z_K ad ca o.2) [.ref (ad 14), .int x1, .int x2] o.1 := by
  refine z_ci_of (own := z_RSr) (by decide) rfl ?_
  intro p e s m below meth c A C0 hw
  obtain ⟨hx, hb, hr, hlk, hml, hown, hts, hK, hA⟩ := id C0
  generalize hH : s.heap = H at hw ⊢
  generalize hlo : ([] : List Loc) = locs at hw ⊢
  refine z_entry (lv := [(0, .ref (ad 14)), (1, .int x1), (2, .int x2)]) (Nat.le_of_ble_eq_true rfl) rfl (fun ls hl => ?_)
  unfold f_Sr_executeOnce at h
  refine lv_iload_n hx hb d_Sr_executeOnce_0 rfl (lv_at hl 1 rfl) ?_
  refine lv_sipush (v := (164 : Int32)) hx hb d_Sr_executeOnce_1 (by decide) ?_
  refine lv_icmp_eq (tgt := 21) hx hb d_Sr_executeOnce_4 (by decide) (fun c1 => ?_) (fun c1 => ?_)
  · have h := ok_t h c1
    exact w_Sr_executeOnce_21 o C0 q x1 x2 h H locs ls hw (lv_sub hl [0, 1, 2] rfl)
  · have h := ok_f h c1
    refine lv_iload_n hx hb d_Sr_executeOnce_7 rfl (lv_at hl 1 rfl) ?_
    refine lv_sipush (v := (166 : Int32)) hx hb d_Sr_executeOnce_8 (by decide) ?_
    refine lv_icmp_eq (tgt := 21) hx hb d_Sr_executeOnce_11 (by decide) (fun c27 => ?_) (fun c27 => ?_)
    · have h := ok_t h c27
      exact w_Sr_executeOnce_21 o C0 q x1 x2 h H locs ls hw (lv_sub hl [0, 1, 2] rfl)
    · have h := ok_f h c27
      refine lv_iload_n hx hb d_Sr_executeOnce_14 rfl (lv_at hl 1 rfl) ?_
      refine lv_sipush (v := (172 : Int32)) hx hb d_Sr_executeOnce_15 (by decide) ?_
      refine lv_icmp_ne (tgt := 25) hx hb d_Sr_executeOnce_18 (by decide) (fun c28 => ?_) (fun c28 => ?_)
      · have h := ok_f h c28
        refine lv_iconst (v := (0 : Int32)) hx hb d_Sr_executeOnce_25 (by decide) ?_
        exact w_Sr_executeOnce_26 o C0 q x1 x2 (0 : Int32) h H locs ls hw (lv_sub hl [0, 1, 2] rfl)
      · have h := ok_t h c28
        exact w_Sr_executeOnce_21 o C0 q x1 x2 h H locs ls hw (lv_sub hl [0, 1, 2] rfl)
def k_Sr_goesOn_86 (t0 : Int32) (q : z_Sg) : Option Int32 :=
  z_gd (z_bo t0) (some t0)
def k_Sr_goesOn_81 (q : z_Sg) : Option Int32 :=
  k_Sr_goesOn_86 (1 : Int32) q
def k_Sr_goesOn_78 (t0 : Int32) (t1 : Int32) (q : z_Sg) : Option Int32 :=
  if t0 = t1 then (k_Sr_goesOn_81 q) else (k_Sr_goesOn_86 (0 : Int32) q)
def k_Sr_goesOn_54 (x2 : Int32) (t0 : Int32) (q : z_Sg) : Option Int32 :=
  if x2 = 0 then (k_Sr_goesOn_81 q) else (if (z_gI q 10) = (243 : Int32) then (k_Sr_goesOn_78 t0 (1 : Int32) q) else (k_Sr_goesOn_78 t0 (0 : Int32) q))
def k_Sr_goesOn_35 (t0 : Int32) (q : z_Sg) : Option Int32 :=
  if ((z_gI q 0) &&& (64 : Int32)) = 0 then (k_Sr_goesOn_54 t0 (0 : Int32) q) else (k_Sr_goesOn_54 t0 (1 : Int32) q)
def k_Sr_goesOn_30 (q : z_Sg) : Option Int32 :=
  k_Sr_goesOn_35 (1 : Int32) q
def f_Sr_goesOn (x1 : Int32) (q : z_Sg) : Option Int32 :=
  if z_bad (1 : Int32) 16 then none else (if (z_gM q 0 (1 : Int32).toNatClampNeg) = (0 : Int64) then (some (0 : Int32)) else (if x1 = (166 : Int32) then (k_Sr_goesOn_30 q) else (if x1 = (174 : Int32) then (k_Sr_goesOn_30 q) else (k_Sr_goesOn_35 (0 : Int32) q))))
set_option maxHeartbeats 4000000 in
set_option maxRecDepth 100000 in
theorem w_Sr_goesOn_86 {p : Program} {l : Launch} {e : Env} {s : State} {m : MethodId} {args : Array Value} {below : List Frame} {meth : Method} {c : Code} {D : va_G} {A : Nat → Prop} {ad : Nat → Nat} {ca : Nat → ClassId} (o : Int32) (C0 : z_cx z_RSr b_Sr_goesOn 4 (some .boolean) D (z_Kt ca) A p s m args meth c) (q : z_Sg) (t0 : Int32) (h : k_Sr_goesOn_86 t0 q = some o) : ∀ (H : Heap) (locs : List Loc) (ls : Array Slot), z_wd D (z_K ad ca q) A s H locs → lv_has ls 4 [] → W p l e (z_rm 0 0) s m args below meth c H locs 0 0 (z_qi below D (z_Kt ca) (z_K ad ca q) A s args o) (F0 m 86 ls [.int t0]) := by
  obtain ⟨hx, hb, hr, hlk, hml, hown, hts, hK, hA⟩ := id C0
  intro H locs ls hw hl
  obtain ⟨b6, h⟩ := ok_G h
  have ho := Option.some.inj h
  subst ho
  exact z_rtz C0 hw (z_bo_n b6) d_Sr_goesOn_86
set_option maxHeartbeats 4000000 in
set_option maxRecDepth 100000 in
theorem w_Sr_goesOn_81 {p : Program} {l : Launch} {e : Env} {s : State} {m : MethodId} {args : Array Value} {below : List Frame} {meth : Method} {c : Code} {D : va_G} {A : Nat → Prop} {ad : Nat → Nat} {ca : Nat → ClassId} (o : Int32) (C0 : z_cx z_RSr b_Sr_goesOn 4 (some .boolean) D (z_Kt ca) A p s m args meth c) (q : z_Sg) (h : k_Sr_goesOn_81 q = some o) : ∀ (H : Heap) (locs : List Loc) (ls : Array Slot), z_wd D (z_K ad ca q) A s H locs → lv_has ls 4 [] → W p l e (z_rm 0 0) s m args below meth c H locs 0 0 (z_qi below D (z_Kt ca) (z_K ad ca q) A s args o) (F0 m 81 ls []) := by
  obtain ⟨hx, hb, hr, hlk, hml, hown, hts, hK, hA⟩ := id C0
  intro H locs ls hw hl
  refine lv_iconst (v := (1 : Int32)) hx hb d_Sr_goesOn_81 (by decide) ?_
  refine lv_goto (tgt := 86) hx hb d_Sr_goesOn_82 (by decide) ?_
  exact w_Sr_goesOn_86 o C0 q (1 : Int32) h H locs ls hw (lv_sub hl [] rfl)
set_option maxHeartbeats 4000000 in
set_option maxRecDepth 100000 in
theorem w_Sr_goesOn_78 {p : Program} {l : Launch} {e : Env} {s : State} {m : MethodId} {args : Array Value} {below : List Frame} {meth : Method} {c : Code} {D : va_G} {A : Nat → Prop} {ad : Nat → Nat} {ca : Nat → ClassId} (o : Int32) (C0 : z_cx z_RSr b_Sr_goesOn 4 (some .boolean) D (z_Kt ca) A p s m args meth c) (q : z_Sg) (t0 : Int32) (t1 : Int32) (h : k_Sr_goesOn_78 t0 t1 q = some o) : ∀ (H : Heap) (locs : List Loc) (ls : Array Slot), z_wd D (z_K ad ca q) A s H locs → lv_has ls 4 [] → W p l e (z_rm 0 0) s m args below meth c H locs 0 0 (z_qi below D (z_Kt ca) (z_K ad ca q) A s args o) (F0 m 78 ls [.int t1, .int t0]) := by
  obtain ⟨hx, hb, hr, hlk, hml, hown, hts, hK, hA⟩ := id C0
  intro H locs ls hw hl
  refine lv_icmp_ne (tgt := 85) hx hb d_Sr_goesOn_78 (by decide) (fun c8 => ?_) (fun c8 => ?_)
  · have h := ok_f h c8
    refine lv_iconst (v := (0 : Int32)) hx hb d_Sr_goesOn_85 (by decide) ?_
    exact w_Sr_goesOn_86 o C0 q (0 : Int32) h H locs ls hw (lv_sub hl [] rfl)
  · have h := ok_t h c8
    exact w_Sr_goesOn_81 o C0 q h H locs ls hw (lv_sub hl [] rfl)
set_option maxHeartbeats 4000000 in
set_option maxRecDepth 100000 in
theorem w_Sr_goesOn_54 {p : Program} {l : Launch} {e : Env} {s : State} {m : MethodId} {args : Array Value} {below : List Frame} {meth : Method} {c : Code} {D : va_G} {A : Nat → Prop} {ad : Nat → Nat} {ca : Nat → ClassId} (o : Int32) (C0 : z_cx z_RSr b_Sr_goesOn 4 (some .boolean) D (z_Kt ca) A p s m args meth c) (q : z_Sg) (x2 : Int32) (t0 : Int32) (h : k_Sr_goesOn_54 x2 t0 q = some o) : ∀ (H : Heap) (locs : List Loc) (ls : Array Slot), z_wd D (z_K ad ca q) A s H locs → lv_has ls 4 [(0, .ref (ad 14)), (2, .int x2)] → W p l e (z_rm 0 0) s m args below meth c H locs 0 0 (z_qi below D (z_Kt ca) (z_K ad ca q) A s args o) (F0 m 54 ls [.int t0]) := by
  obtain ⟨hx, hb, hr, hlk, hml, hown, hts, hK, hA⟩ := id C0
  intro H locs ls hw hl
  refine lv_istore_n (lv' := [(3, .int t0), (0, .ref (ad 14)), (2, .int x2)]) hx hb d_Sr_goesOn_54 rfl hl (by decide) rfl (fun ls hl => ?_)
  refine lv_iload_n hx hb d_Sr_goesOn_55 rfl (lv_at hl 2 rfl) ?_
  refine lv_if_eq (tgt := 81) hx hb d_Sr_goesOn_56 (by decide) (fun c5 => ?_) (fun c5 => ?_)
  · have h := ok_t h c5
    exact w_Sr_goesOn_81 o C0 q h H locs ls hw (lv_sub hl [] rfl)
  · have h := ok_f h c5
    refine lv_iload_n hx hb d_Sr_goesOn_59 rfl (lv_at hl 0 rfl) ?_
    refine lv_aload_n hx hb d_Sr_goesOn_60 rfl (lv_at hl 1 rfl) ?_
    refine gfK_14_code C0 hw fl_Sr_15 d_Sr_goesOn_61 ?_
    refine gfK_5_repeat C0 hw fl_Sr_40 d_Sr_goesOn_64 ?_
    refine lv_sipush (v := (243 : Int32)) hx hb d_Sr_goesOn_67 (by decide) ?_
    refine lv_icmp_ne (tgt := 77) hx hb d_Sr_goesOn_70 (by decide) (fun c7 => ?_) (fun c7 => ?_)
    · have h := ok_f h c7
      refine lv_iconst (v := (0 : Int32)) hx hb d_Sr_goesOn_77 (by decide) ?_
      exact w_Sr_goesOn_78 o C0 q t0 (0 : Int32) h H locs ls hw (lv_sub hl [] rfl)
    · have h := ok_t h c7
      refine lv_iconst (v := (1 : Int32)) hx hb d_Sr_goesOn_73 (by decide) ?_
      refine lv_goto (tgt := 78) hx hb d_Sr_goesOn_74 (by decide) ?_
      exact w_Sr_goesOn_78 o C0 q t0 (1 : Int32) h H locs ls hw (lv_sub hl [] rfl)
set_option maxHeartbeats 4000000 in
set_option maxRecDepth 100000 in
theorem w_Sr_goesOn_35 {p : Program} {l : Launch} {e : Env} {s : State} {m : MethodId} {args : Array Value} {below : List Frame} {meth : Method} {c : Code} {D : va_G} {A : Nat → Prop} {ad : Nat → Nat} {ca : Nat → ClassId} (o : Int32) (C0 : z_cx z_RSr b_Sr_goesOn 4 (some .boolean) D (z_Kt ca) A p s m args meth c) (q : z_Sg) (t0 : Int32) (h : k_Sr_goesOn_35 t0 q = some o) : ∀ (H : Heap) (locs : List Loc) (ls : Array Slot), z_wd D (z_K ad ca q) A s H locs → lv_has ls 4 [(0, .ref (ad 14))] → W p l e (z_rm 0 0) s m args below meth c H locs 0 0 (z_qi below D (z_Kt ca) (z_K ad ca q) A s args o) (F0 m 35 ls [.int t0]) := by
  obtain ⟨hx, hb, hr, hlk, hml, hown, hts, hK, hA⟩ := id C0
  intro H locs ls hw hl
  refine lv_istore_n (lv' := [(2, .int t0), (0, .ref (ad 14))]) hx hb d_Sr_goesOn_35 rfl hl (by decide) rfl (fun ls hl => ?_)
  refine lv_aload_n hx hb d_Sr_goesOn_36 rfl (lv_at hl 1 rfl) ?_
  refine gfK_14_state C0 hw fl_Sr_9 d_Sr_goesOn_37 ?_
  refine gfK_1_flags C0 hw fl_Sr_68 d_Sr_goesOn_40 ?_
  refine lv_bipush (v := (64 : Int32)) hx hb d_Sr_goesOn_43 (by decide) ?_
  refine lv_iand hx hb d_Sr_goesOn_45 ?_
  refine lv_if_eq (tgt := 53) hx hb d_Sr_goesOn_46 (by decide) (fun c4 => ?_) (fun c4 => ?_)
  · have h := ok_t h c4
    refine lv_iconst (v := (0 : Int32)) hx hb d_Sr_goesOn_53 (by decide) ?_
    exact w_Sr_goesOn_54 o C0 q t0 (0 : Int32) h H locs ls hw (lv_sub hl [1, 0] rfl)
  · have h := ok_f h c4
    refine lv_iconst (v := (1 : Int32)) hx hb d_Sr_goesOn_49 (by decide) ?_
    refine lv_goto (tgt := 54) hx hb d_Sr_goesOn_50 (by decide) ?_
    exact w_Sr_goesOn_54 o C0 q t0 (1 : Int32) h H locs ls hw (lv_sub hl [1, 0] rfl)
set_option maxHeartbeats 4000000 in
set_option maxRecDepth 100000 in
theorem w_Sr_goesOn_30 {p : Program} {l : Launch} {e : Env} {s : State} {m : MethodId} {args : Array Value} {below : List Frame} {meth : Method} {c : Code} {D : va_G} {A : Nat → Prop} {ad : Nat → Nat} {ca : Nat → ClassId} (o : Int32) (C0 : z_cx z_RSr b_Sr_goesOn 4 (some .boolean) D (z_Kt ca) A p s m args meth c) (q : z_Sg) (h : k_Sr_goesOn_30 q = some o) : ∀ (H : Heap) (locs : List Loc) (ls : Array Slot), z_wd D (z_K ad ca q) A s H locs → lv_has ls 4 [(0, .ref (ad 14))] → W p l e (z_rm 0 0) s m args below meth c H locs 0 0 (z_qi below D (z_Kt ca) (z_K ad ca q) A s args o) (F0 m 30 ls []) := by
  obtain ⟨hx, hb, hr, hlk, hml, hown, hts, hK, hA⟩ := id C0
  intro H locs ls hw hl
  refine lv_iconst (v := (1 : Int32)) hx hb d_Sr_goesOn_30 (by decide) ?_
  refine lv_goto (tgt := 35) hx hb d_Sr_goesOn_31 (by decide) ?_
  exact w_Sr_goesOn_35 o C0 q (1 : Int32) h H locs ls hw (lv_sub hl [0] rfl)
set_option maxHeartbeats 4000000 in
set_option maxRecDepth 100000 in
theorem c_Sr_goesOn {l : Launch} {D : va_G} {ad : Nat → Nat} {ca : Nat → ClassId} (x1 : Int32) (q : z_Sg) (o : Int32) (h : f_Sr_goesOn x1 q = some o) : z_ci l y_Sr_goesOn b_Sr_goesOn 4 (some .boolean) 0 0 D (z_Kt ca) (z_K ad ca q) (z_K ad ca q) [.ref (ad 14), .int x1] o := by
  refine z_ci_of (own := z_RSr) (by decide) rfl ?_
  intro p e s m below meth c A C0 hw
  obtain ⟨hx, hb, hr, hlk, hml, hown, hts, hK, hA⟩ := id C0
  generalize hH : s.heap = H at hw ⊢
  generalize hlo : ([] : List Loc) = locs at hw ⊢
  refine z_entry (lv := [(0, .ref (ad 14)), (1, .int x1)]) (Nat.le_of_ble_eq_true rfl) rfl (fun ls hl => ?_)
  unfold f_Sr_goesOn at h
  refine lv_aload_n hx hb d_Sr_goesOn_0 rfl (lv_at hl 0 rfl) ?_
  refine gfK_14_state C0 hw fl_Sr_9 d_Sr_goesOn_1 ?_
  refine gfK_1_registers C0 hw fl_Sr_43 d_Sr_goesOn_4 ?_
  refine lv_iconst (v := (1 : Int32)) hx hb d_Sr_goesOn_7 (by decide) ?_
  obtain ⟨b1, h⟩ := ok_g h
  refine alK_2 C0 hw b1 d_Sr_goesOn_8 ?_
  refine lv_lconst (v := (0 : Int64)) hx hb d_Sr_goesOn_9 (by decide) ?_
  refine W.lcmp hx hb d_Sr_goesOn_10 ?_
  refine lv_if_ne (tgt := 16) hx hb d_Sr_goesOn_11 (by decide) (fun c2 => ?_) (fun c2 => ?_)
  · have h := ok_f h (fun z => c2 ((lg_cmp_eq _ _).mpr z))
    refine lv_iload_n hx hb d_Sr_goesOn_16 rfl (lv_at hl 1 rfl) ?_
    refine lv_sipush (v := (166 : Int32)) hx hb d_Sr_goesOn_17 (by decide) ?_
    refine lv_icmp_eq (tgt := 30) hx hb d_Sr_goesOn_20 (by decide) (fun c3 => ?_) (fun c3 => ?_)
    · have h := ok_t h c3
      exact w_Sr_goesOn_30 o C0 q h H locs ls hw (lv_sub hl [0] rfl)
    · have h := ok_f h c3
      refine lv_iload_n hx hb d_Sr_goesOn_23 rfl (lv_at hl 1 rfl) ?_
      refine lv_sipush (v := (174 : Int32)) hx hb d_Sr_goesOn_24 (by decide) ?_
      refine lv_icmp_ne (tgt := 34) hx hb d_Sr_goesOn_27 (by decide) (fun c9 => ?_) (fun c9 => ?_)
      · have h := ok_f h c9
        refine lv_iconst (v := (0 : Int32)) hx hb d_Sr_goesOn_34 (by decide) ?_
        exact w_Sr_goesOn_35 o C0 q (0 : Int32) h H locs ls hw (lv_sub hl [0] rfl)
      · have h := ok_t h c9
        exact w_Sr_goesOn_30 o C0 q h H locs ls hw (lv_sub hl [0] rfl)
  · have h := ok_t h ((lg_cmp_eq _ _).mp c2)
    refine lv_iconst (v := (0 : Int32)) hx hb d_Sr_goesOn_14 (by decide) ?_
    have ho := Option.some.inj h
    subst ho
    exact z_rtz C0 hw (z_bo_n (Or.inl rfl)) d_Sr_goesOn_15
def k_Sr_execute_32 (q : z_Sg) : Option (Int32 × z_Sg) :=
  some ((-2 : Int32), q)
def k_Sr_execute_148 (x4 : Int32) (q : z_Sg) : Option (Int32 × z_Sg) :=
  some (x4, q)
def k_Sr_execute_94 (x1 : Int32) (x2 : Int32) (t0 : Int32) (q : z_Sg) : Option (Int32 × z_Sg) :=
  (f_Sr_executeOnce x1 t0 q).bind (fun r9 => if r9.1 = (-1 : Int32) then (if x2 = 0 then (k_Sr_execute_148 r9.1 r9.2) else (if z_bad (1 : Int32) 16 then none else (if z_bad (1 : Int32) 16 then none else (z_nm (z_sM r9.2 0 (1 : Int32).toNatClampNeg ((z_gM r9.2 0 (1 : Int32).toNatClampNeg) - (1 : Int64))) (fun q14 => (f_Sr_goesOn x1 q14).bind (fun r15 => if r15 = 0 then (k_Sr_execute_148 r9.1 q14) else (z_nm (z_sL q14 10 (z_gL q14 0)) (fun q17 => k_Sr_execute_148 r9.1 q17)))))))) else (k_Sr_execute_148 r9.1 r9.2))
def k_Sr_execute_71 (x1 : Int32) (x2 : Int32) (q : z_Sg) : Option (Int32 × z_Sg) :=
  if ((z_gI q 11) &&& (1 : Int32)) = 0 then (k_Sr_execute_94 x1 x2 (1 : Int32) q) else ((f_De_sizeV q).bind (fun r8 => k_Sr_execute_94 x1 x2 r8 q))
def k_Sr_execute_50 (x1 : Int32) (t0 : Int32) (q : z_Sg) : Option (Int32 × z_Sg) :=
  if t0 = 0 then (k_Sr_execute_71 x1 t0 q) else (if z_bad (1 : Int32) 16 then none else (if (z_gM q 0 (1 : Int32).toNatClampNeg) = (0 : Int64) then (some ((-1 : Int32), q)) else (k_Sr_execute_71 x1 t0 q)))
def f_Sr_execute (q : z_Sg) : Option (Int32 × z_Sg) :=
  z_nm (((z_gI q 11) &&& (-2 : Int32))) (fun n1 => if n1 < (164 : Int32) then (k_Sr_execute_32 q) else (if (174 : Int32) < n1 then (k_Sr_execute_32 q) else (if n1 = (168 : Int32) then (k_Sr_execute_32 q) else (if (z_gI q 10) = 0 then (k_Sr_execute_50 n1 (0 : Int32) q) else (k_Sr_execute_50 n1 (1 : Int32) q)))))
set_option maxHeartbeats 4000000 in
set_option maxRecDepth 100000 in
theorem w_Sr_execute_32 {p : Program} {l : Launch} {e : Env} {s : State} {m : MethodId} {args : Array Value} {below : List Frame} {meth : Method} {c : Code} {D : va_G} {A : Nat → Prop} {ad : Nat → Nat} {ca : Nat → ClassId} (o : (Int32 × z_Sg)) (C0 : z_cx z_RSr b_Sr_execute 5 (some .int) D (z_Kt ca) A p s m args meth c) (q : z_Sg) (h : k_Sr_execute_32 q = some o) : ∀ (H : Heap) (locs : List Loc) (ls : Array Slot), z_wd D (z_K ad ca q) A s H locs → lv_has ls 5 [] → W p l e (z_rm 5 138) s m args below meth c H locs 0 0 (z_qi below D (z_Kt ca) (z_K ad ca o.2) A s args o.1) (F0 m 32 ls []) := by
  obtain ⟨hx, hb, hr, hlk, hml, hown, hts, hK, hA⟩ := id C0
  intro H locs ls hw hl
  refine lv_bipush (v := (-2 : Int32)) hx hb d_Sr_execute_32 (by decide) ?_
  have ho := Option.some.inj h
  subst ho
  exact z_rti C0 hw d_Sr_execute_34
set_option maxHeartbeats 4000000 in
set_option maxRecDepth 100000 in
theorem w_Sr_execute_148 {p : Program} {l : Launch} {e : Env} {s : State} {m : MethodId} {args : Array Value} {below : List Frame} {meth : Method} {c : Code} {D : va_G} {A : Nat → Prop} {ad : Nat → Nat} {ca : Nat → ClassId} (o : (Int32 × z_Sg)) (C0 : z_cx z_RSr b_Sr_execute 5 (some .int) D (z_Kt ca) A p s m args meth c) (q : z_Sg) (x4 : Int32) (h : k_Sr_execute_148 x4 q = some o) : ∀ (H : Heap) (locs : List Loc) (ls : Array Slot), z_wd D (z_K ad ca q) A s H locs → lv_has ls 5 [(4, .int x4)] → W p l e (z_rm 5 138) s m args below meth c H locs 0 0 (z_qi below D (z_Kt ca) (z_K ad ca o.2) A s args o.1) (F0 m 148 ls []) := by
  obtain ⟨hx, hb, hr, hlk, hml, hown, hts, hK, hA⟩ := id C0
  intro H locs ls hw hl
  refine lv_iload hx hb d_Sr_execute_148 (lv_at hl 0 rfl) ?_
  have ho := Option.some.inj h
  subst ho
  exact z_rti C0 hw d_Sr_execute_150
set_option maxHeartbeats 4000000 in
set_option maxRecDepth 100000 in
theorem w_Sr_execute_94 {p : Program} {l : Launch} {e : Env} {s : State} {m : MethodId} {args : Array Value} {below : List Frame} {meth : Method} {c : Code} {D : va_G} {A : Nat → Prop} {ad : Nat → Nat} {ca : Nat → ClassId} (o : (Int32 × z_Sg)) (C0 : z_cx z_RSr b_Sr_execute 5 (some .int) D (z_Kt ca) A p s m args meth c) (q : z_Sg) (x1 : Int32) (x2 : Int32) (t0 : Int32) (h : k_Sr_execute_94 x1 x2 t0 q = some o) : ∀ (H : Heap) (locs : List Loc) (ls : Array Slot), z_wd D (z_K ad ca q) A s H locs → lv_has ls 5 [(0, .ref (ad 14)), (1, .int x1), (2, .int x2)] → W p l e (z_rm 5 138) s m args below meth c H locs 0 0 (z_qi below D (z_Kt ca) (z_K ad ca o.2) A s args o.1) (F0 m 94 ls [.int t0]) := by
  obtain ⟨hx, hb, hr, hlk, hml, hown, hts, hK, hA⟩ := id C0
  intro H locs ls hw hl
  refine lv_istore_n (lv' := [(3, .int t0), (0, .ref (ad 14)), (1, .int x1), (2, .int x2)]) hx hb d_Sr_execute_94 rfl hl (by decide) rfl (fun ls hl => ?_)
  refine lv_aload_n hx hb d_Sr_execute_95 rfl (lv_at hl 1 rfl) ?_
  refine lv_iload_n hx hb d_Sr_execute_96 rfl (lv_at hl 2 rfl) ?_
  refine lv_iload_n hx hb d_Sr_execute_97 rfl (lv_at hl 0 rfl) ?_
  obtain ⟨r9, er9, h⟩ := ok_b h
  refine z_vi (rest := []) C0 hw (c_Sr_executeOnce x1 t0 q r9 er9) mw_Sr_executeOnce ml_Sr_53 14 rfl ⟨Nat.le_of_ble_eq_true rfl, Nat.le_of_ble_eq_true rfl⟩ ⟨Nat.le_refl 0, Nat.le_refl 0⟩ rfl hl.1 rfl (Nat.le_of_ble_eq_true rfl) d_Sr_execute_98 (fun H locs hw => ?_)
  refine lv_istore (lv' := [(4, .int r9.1), (3, .int t0), (0, .ref (ad 14)), (1, .int x1), (2, .int x2)]) hx hb d_Sr_execute_101 hl (by decide) rfl (fun ls hl => ?_)
  refine lv_iload hx hb d_Sr_execute_103 (lv_at hl 0 rfl) ?_
  refine lv_iconst (v := (-1 : Int32)) hx hb d_Sr_execute_105 (by decide) ?_
  refine lv_icmp_ne (tgt := 148) hx hb d_Sr_execute_106 (by decide) (fun c10 => ?_) (fun c10 => ?_)
  · have h := ok_f h c10
    exact w_Sr_execute_148 o C0 r9.2 r9.1 h H locs ls hw (lv_sub hl [0] rfl)
  · have h := ok_t h c10
    refine lv_iload_n hx hb d_Sr_execute_109 rfl (lv_at hl 4 rfl) ?_
    refine lv_if_eq (tgt := 148) hx hb d_Sr_execute_110 (by decide) (fun c11 => ?_) (fun c11 => ?_)
    · have h := ok_t h c11
      exact w_Sr_execute_148 o C0 r9.2 r9.1 h H locs ls hw (lv_sub hl [0] rfl)
    · have h := ok_f h c11
      refine lv_aload_n hx hb d_Sr_execute_113 rfl (lv_at hl 2 rfl) ?_
      refine gfK_14_state C0 hw fl_Sr_9 d_Sr_execute_114 ?_
      refine gfK_1_registers C0 hw fl_Sr_43 d_Sr_execute_117 ?_
      refine lv_iconst (v := (1 : Int32)) hx hb d_Sr_execute_120 (by decide) ?_
      refine lv_dup2_11 hx hb d_Sr_execute_121 rfl rfl ?_
      obtain ⟨b12, h⟩ := ok_g h
      refine alK_2 C0 hw b12 d_Sr_execute_122 ?_
      refine lv_lconst (v := (1 : Int64)) hx hb d_Sr_execute_123 (by decide) ?_
      refine lv_lsub hx hb d_Sr_execute_124 ?_
      obtain ⟨b13, h⟩ := ok_g h
      refine asK_2 C0 hw b13 d_Sr_execute_125 (fun H locs hw => ?_)
      obtain ⟨q14, eq14, h⟩ := ok_n h
      rw [← eq14] at hw
      refine lv_aload_n hx hb d_Sr_execute_126 rfl (lv_at hl 2 rfl) ?_
      refine lv_iload_n hx hb d_Sr_execute_127 rfl (lv_at hl 3 rfl) ?_
      obtain ⟨r15, er15, h⟩ := ok_b h
      refine z_vi (rest := []) C0 hw (c_Sr_goesOn x1 q14 r15 er15) mw_Sr_goesOn ml_Sr_57 14 rfl ⟨Nat.le_of_ble_eq_true rfl, Nat.le_of_ble_eq_true rfl⟩ ⟨Nat.le_refl 0, Nat.le_refl 0⟩ rfl hl.1 rfl (Nat.le_of_ble_eq_true rfl) d_Sr_execute_128 (fun H locs hw => ?_)
      refine lv_if_eq (tgt := 148) hx hb d_Sr_execute_131 (by decide) (fun c16 => ?_) (fun c16 => ?_)
      · have h := ok_t h c16
        exact w_Sr_execute_148 o C0 q14 r9.1 h H locs ls hw (lv_sub hl [0] rfl)
      · have h := ok_f h c16
        refine lv_aload_n hx hb d_Sr_execute_134 rfl (lv_at hl 2 rfl) ?_
        refine gfK_14_code C0 hw fl_Sr_15 d_Sr_execute_135 ?_
        refine lv_aload_n hx hb d_Sr_execute_138 rfl (lv_at hl 2 rfl) ?_
        refine gfK_14_state C0 hw fl_Sr_9 d_Sr_execute_139 ?_
        refine gfK_1_next C0 hw fl_Sr_61 d_Sr_execute_142 ?_
        refine pfK_5_onward C0 hw fl_Sr_65 d_Sr_execute_145 (fun H locs hw => ?_)
        obtain ⟨q17, eq17, h⟩ := ok_n h
        rw [← eq17] at hw
        exact w_Sr_execute_148 o C0 q17 r9.1 h H locs ls hw (lv_sub hl [0] rfl)
set_option maxHeartbeats 4000000 in
set_option maxRecDepth 100000 in
theorem w_Sr_execute_71 {p : Program} {l : Launch} {e : Env} {s : State} {m : MethodId} {args : Array Value} {below : List Frame} {meth : Method} {c : Code} {D : va_G} {A : Nat → Prop} {ad : Nat → Nat} {ca : Nat → ClassId} (o : (Int32 × z_Sg)) (C0 : z_cx z_RSr b_Sr_execute 5 (some .int) D (z_Kt ca) A p s m args meth c) (q : z_Sg) (x1 : Int32) (x2 : Int32) (h : k_Sr_execute_71 x1 x2 q = some o) : ∀ (H : Heap) (locs : List Loc) (ls : Array Slot), z_wd D (z_K ad ca q) A s H locs → lv_has ls 5 [(0, .ref (ad 14)), (1, .int x1), (2, .int x2)] → W p l e (z_rm 5 138) s m args below meth c H locs 0 0 (z_qi below D (z_Kt ca) (z_K ad ca o.2) A s args o.1) (F0 m 71 ls []) := by
  obtain ⟨hx, hb, hr, hlk, hml, hown, hts, hK, hA⟩ := id C0
  intro H locs ls hw hl
  refine lv_aload_n hx hb d_Sr_execute_71 rfl (lv_at hl 0 rfl) ?_
  refine gfK_14_code C0 hw fl_Sr_15 d_Sr_execute_72 ?_
  refine gfK_5_opcode C0 hw fl_Sr_34 d_Sr_execute_75 ?_
  refine lv_iconst (v := (1 : Int32)) hx hb d_Sr_execute_78 (by decide) ?_
  refine lv_iand hx hb d_Sr_execute_79 ?_
  refine lv_if_ne (tgt := 87) hx hb d_Sr_execute_80 (by decide) (fun c7 => ?_) (fun c7 => ?_)
  · have h := ok_f h c7
    refine lv_aload_n hx hb d_Sr_execute_87 rfl (lv_at hl 0 rfl) ?_
    refine gfK_14_code C0 hw fl_Sr_15 d_Sr_execute_88 ?_
    obtain ⟨r8, er8, h⟩ := ok_b h
    refine z_vi (rest := []) C0 hw (c_De_sizeV q r8 er8) mw_De_sizeV ml_Sr_49 5 rfl ⟨Nat.le_of_ble_eq_true rfl, Nat.le_of_ble_eq_true rfl⟩ ⟨Nat.le_refl 0, Nat.le_refl 0⟩ rfl hl.1 rfl (Nat.le_of_ble_eq_true rfl) d_Sr_execute_91 (fun H locs hw => ?_)
    exact w_Sr_execute_94 o C0 q x1 x2 r8 h H locs ls hw (lv_sub hl [0, 1, 2] rfl)
  · have h := ok_t h c7
    refine lv_iconst (v := (1 : Int32)) hx hb d_Sr_execute_83 (by decide) ?_
    refine lv_goto (tgt := 94) hx hb d_Sr_execute_84 (by decide) ?_
    exact w_Sr_execute_94 o C0 q x1 x2 (1 : Int32) h H locs ls hw (lv_sub hl [0, 1, 2] rfl)
set_option maxHeartbeats 4000000 in
set_option maxRecDepth 100000 in
theorem w_Sr_execute_50 {p : Program} {l : Launch} {e : Env} {s : State} {m : MethodId} {args : Array Value} {below : List Frame} {meth : Method} {c : Code} {D : va_G} {A : Nat → Prop} {ad : Nat → Nat} {ca : Nat → ClassId} (o : (Int32 × z_Sg)) (C0 : z_cx z_RSr b_Sr_execute 5 (some .int) D (z_Kt ca) A p s m args meth c) (q : z_Sg) (x1 : Int32) (t0 : Int32) (h : k_Sr_execute_50 x1 t0 q = some o) : ∀ (H : Heap) (locs : List Loc) (ls : Array Slot), z_wd D (z_K ad ca q) A s H locs → lv_has ls 5 [(0, .ref (ad 14)), (1, .int x1)] → W p l e (z_rm 5 138) s m args below meth c H locs 0 0 (z_qi below D (z_Kt ca) (z_K ad ca o.2) A s args o.1) (F0 m 50 ls [.int t0]) := by
  obtain ⟨hx, hb, hr, hlk, hml, hown, hts, hK, hA⟩ := id C0
  intro H locs ls hw hl
  refine lv_istore_n (lv' := [(2, .int t0), (0, .ref (ad 14)), (1, .int x1)]) hx hb d_Sr_execute_50 rfl hl (by decide) rfl (fun ls hl => ?_)
  refine lv_iload_n hx hb d_Sr_execute_51 rfl (lv_at hl 0 rfl) ?_
  refine lv_if_eq (tgt := 71) hx hb d_Sr_execute_52 (by decide) (fun c6 => ?_) (fun c6 => ?_)
  · have h := ok_t h c6
    exact w_Sr_execute_71 o C0 q x1 t0 h H locs ls hw (lv_sub hl [1, 2, 0] rfl)
  · have h := ok_f h c6
    refine lv_aload_n hx hb d_Sr_execute_55 rfl (lv_at hl 1 rfl) ?_
    refine gfK_14_state C0 hw fl_Sr_9 d_Sr_execute_56 ?_
    refine gfK_1_registers C0 hw fl_Sr_43 d_Sr_execute_59 ?_
    refine lv_iconst (v := (1 : Int32)) hx hb d_Sr_execute_62 (by decide) ?_
    obtain ⟨b18, h⟩ := ok_g h
    refine alK_2 C0 hw b18 d_Sr_execute_63 ?_
    refine lv_lconst (v := (0 : Int64)) hx hb d_Sr_execute_64 (by decide) ?_
    refine W.lcmp hx hb d_Sr_execute_65 ?_
    refine lv_if_ne (tgt := 71) hx hb d_Sr_execute_66 (by decide) (fun c19 => ?_) (fun c19 => ?_)
    · have h := ok_f h (fun z => c19 ((lg_cmp_eq _ _).mpr z))
      exact w_Sr_execute_71 o C0 q x1 t0 h H locs ls hw (lv_sub hl [1, 2, 0] rfl)
    · have h := ok_t h ((lg_cmp_eq _ _).mp c19)
      refine lv_iconst (v := (-1 : Int32)) hx hb d_Sr_execute_69 (by decide) ?_
      have ho := Option.some.inj h
      subst ho
      exact z_rti C0 hw d_Sr_execute_70
set_option maxHeartbeats 4000000 in
set_option maxRecDepth 100000 in
theorem c_Sr_execute {l : Launch} {D : va_G} {ad : Nat → Nat} {ca : Nat → ClassId} (q : z_Sg) (o : (Int32 × z_Sg)) (h : f_Sr_execute q = some o) : z_ci l y_Sr_execute b_Sr_execute 5 (some .int) 5 138 D (z_Kt ca) (z_K ad ca q) (z_K ad ca o.2) [.ref (ad 14)] o.1 := by
  refine z_ci_of (own := z_RSr) (by decide) rfl ?_
  intro p e s m below meth c A C0 hw
  obtain ⟨hx, hb, hr, hlk, hml, hown, hts, hK, hA⟩ := id C0
  generalize hH : s.heap = H at hw ⊢
  generalize hlo : ([] : List Loc) = locs at hw ⊢
  refine z_entry (lv := [(0, .ref (ad 14))]) (Nat.le_of_ble_eq_true rfl) rfl (fun ls hl => ?_)
  unfold f_Sr_execute at h
  refine lv_aload_n hx hb d_Sr_execute_0 rfl (lv_at hl 0 rfl) ?_
  refine gfK_14_code C0 hw fl_Sr_15 d_Sr_execute_1 ?_
  refine gfK_5_opcode C0 hw fl_Sr_34 d_Sr_execute_4 ?_
  refine lv_bipush (v := (-2 : Int32)) hx hb d_Sr_execute_7 (by decide) ?_
  refine lv_iand hx hb d_Sr_execute_9 ?_
  obtain ⟨n1, en1, h⟩ := ok_n h
  refine z_ti en1 ?_
  refine lv_istore_n (lv' := [(1, .int n1), (0, .ref (ad 14))]) hx hb d_Sr_execute_10 rfl hl (by decide) rfl (fun ls hl => ?_)
  refine lv_iload_n hx hb d_Sr_execute_11 rfl (lv_at hl 0 rfl) ?_
  refine lv_sipush (v := (164 : Int32)) hx hb d_Sr_execute_12 (by decide) ?_
  refine lv_icmp_lt (tgt := 32) hx hb d_Sr_execute_15 (by decide) (fun c2 => ?_) (fun c2 => ?_)
  · have h := ok_t h c2
    exact w_Sr_execute_32 o C0 q h H locs ls hw (lv_sub hl [] rfl)
  · have h := ok_f h c2
    refine lv_iload_n hx hb d_Sr_execute_18 rfl (lv_at hl 0 rfl) ?_
    refine lv_sipush (v := (174 : Int32)) hx hb d_Sr_execute_19 (by decide) ?_
    refine lv_icmp_gt (tgt := 32) hx hb d_Sr_execute_22 (by decide) (fun c3 => ?_) (fun c3 => ?_)
    · have h := ok_t h c3
      exact w_Sr_execute_32 o C0 q h H locs ls hw (lv_sub hl [] rfl)
    · have h := ok_f h c3
      refine lv_iload_n hx hb d_Sr_execute_25 rfl (lv_at hl 0 rfl) ?_
      refine lv_sipush (v := (168 : Int32)) hx hb d_Sr_execute_26 (by decide) ?_
      refine lv_icmp_ne (tgt := 35) hx hb d_Sr_execute_29 (by decide) (fun c4 => ?_) (fun c4 => ?_)
      · have h := ok_f h c4
        refine lv_aload_n hx hb d_Sr_execute_35 rfl (lv_at hl 1 rfl) ?_
        refine gfK_14_code C0 hw fl_Sr_15 d_Sr_execute_36 ?_
        refine gfK_5_repeat C0 hw fl_Sr_40 d_Sr_execute_39 ?_
        refine lv_if_eq (tgt := 49) hx hb d_Sr_execute_42 (by decide) (fun c5 => ?_) (fun c5 => ?_)
        · have h := ok_t h c5
          refine lv_iconst (v := (0 : Int32)) hx hb d_Sr_execute_49 (by decide) ?_
          exact w_Sr_execute_50 o C0 q n1 (0 : Int32) h H locs ls hw (lv_sub hl [1, 0] rfl)
        · have h := ok_f h c5
          refine lv_iconst (v := (1 : Int32)) hx hb d_Sr_execute_45 (by decide) ?_
          refine lv_goto (tgt := 50) hx hb d_Sr_execute_46 (by decide) ?_
          exact w_Sr_execute_50 o C0 q n1 (1 : Int32) h H locs ls hw (lv_sub hl [1, 0] rfl)
      · have h := ok_t h c4
        exact w_Sr_execute_32 o C0 q h H locs ls hw (lv_sub hl [] rfl)
def k_Op_bytesOfE_153 (t0 : Int32) (q : z_Sg) : Option Int32 :=
  some t0
def k_Op_bytesOfE_154 (q : z_Sg) : Option Int32 :=
  some (1 : Int32)
def k_Op_bytesOfE_156 (q : z_Sg) : Option Int32 :=
  some (2 : Int32)
def k_Op_bytesOfE_223 (t0 : Int32) (q : z_Sg) : Option Int32 :=
  some t0
def k_Op_bytesOfE_194 (t0 : Int32) (q : z_Sg) : Option Int32 :=
  some t0
def f_Op_bytesOfE (q : z_Sg) : Option Int32 :=
  if (z_gI q 11) = (99 : Int32) then ((f_De_sizeV q).bind (fun r2 => (f_Ma_min r2 (4 : Int32) q).bind (fun r3 => some r3))) else (if (z_gI q 11) = (143 : Int32) then ((f_De_sizeOnStack q).bind (fun r5 => some r5)) else (if (z_gI q 11) = (255 : Int32) then (if (z_gI q 13) = (6 : Int32) then ((f_De_sizeOnStack q).bind (fun r10 => k_Op_bytesOfE_153 r10 q)) else (if (2 : Int32) ≤ (z_gI q 13) then (k_Op_bytesOfE_153 (8 : Int32) q) else ((f_De_sizeV q).bind (fun r9 => k_Op_bytesOfE_153 r9 q)))) else (if (z_gI q 11) = (432 : Int32) then (k_Op_bytesOfE_154 q) else (if (z_gI q 11) = (438 : Int32) then (k_Op_bytesOfE_154 q) else (if (z_gI q 11) = (439 : Int32) then (k_Op_bytesOfE_156 q) else (if (z_gI q 11) = (446 : Int32) then (k_Op_bytesOfE_154 q) else (if (z_gI q 11) = (447 : Int32) then (k_Op_bytesOfE_156 q) else (if (z_gI q 11) = (448 : Int32) then (k_Op_bytesOfE_154 q) else (if (256 : Int32) ≤ (z_gI q 11) then (if ((z_gI q 11) &&& (240 : Int32)) = (144 : Int32) then (k_Op_bytesOfE_223 (1 : Int32) q) else ((f_De_sizeV q).bind (fun r19 => k_Op_bytesOfE_223 r19 q))) else (if ((z_gI q 11) &&& (1 : Int32)) = 0 then (k_Op_bytesOfE_194 (1 : Int32) q) else ((f_De_sizeV q).bind (fun r21 => k_Op_bytesOfE_194 r21 q))))))))))))
set_option maxHeartbeats 4000000 in
set_option maxRecDepth 100000 in
theorem w_Op_bytesOfE_153 {p : Program} {l : Launch} {e : Env} {s : State} {m : MethodId} {args : Array Value} {below : List Frame} {meth : Method} {c : Code} {D : va_G} {A : Nat → Prop} {ad : Nat → Nat} {ca : Nat → ClassId} (o : Int32) (C0 : z_cx z_ROp b_Op_bytesOfE 1 (some .int) D (z_Kt ca) A p s m args meth c) (q : z_Sg) (t0 : Int32) (h : k_Op_bytesOfE_153 t0 q = some o) : ∀ (H : Heap) (locs : List Loc) (ls : Array Slot), z_wd D (z_K ad ca q) A s H locs → lv_has ls 1 [] → W p l e (z_rm 2 40) s m args below meth c H locs 0 0 (z_qi below D (z_Kt ca) (z_K ad ca q) A s args o) (F0 m 153 ls [.int t0]) := by
  obtain ⟨hx, hb, hr, hlk, hml, hown, hts, hK, hA⟩ := id C0
  intro H locs ls hw hl
  have ho := Option.some.inj h
  subst ho
  exact z_rti C0 hw d_Op_bytesOfE_153
set_option maxHeartbeats 4000000 in
set_option maxRecDepth 100000 in
theorem w_Op_bytesOfE_154 {p : Program} {l : Launch} {e : Env} {s : State} {m : MethodId} {args : Array Value} {below : List Frame} {meth : Method} {c : Code} {D : va_G} {A : Nat → Prop} {ad : Nat → Nat} {ca : Nat → ClassId} (o : Int32) (C0 : z_cx z_ROp b_Op_bytesOfE 1 (some .int) D (z_Kt ca) A p s m args meth c) (q : z_Sg) (h : k_Op_bytesOfE_154 q = some o) : ∀ (H : Heap) (locs : List Loc) (ls : Array Slot), z_wd D (z_K ad ca q) A s H locs → lv_has ls 1 [] → W p l e (z_rm 2 40) s m args below meth c H locs 0 0 (z_qi below D (z_Kt ca) (z_K ad ca q) A s args o) (F0 m 154 ls []) := by
  obtain ⟨hx, hb, hr, hlk, hml, hown, hts, hK, hA⟩ := id C0
  intro H locs ls hw hl
  refine lv_iconst (v := (1 : Int32)) hx hb d_Op_bytesOfE_154 (by decide) ?_
  have ho := Option.some.inj h
  subst ho
  exact z_rti C0 hw d_Op_bytesOfE_155
set_option maxHeartbeats 4000000 in
set_option maxRecDepth 100000 in
theorem w_Op_bytesOfE_156 {p : Program} {l : Launch} {e : Env} {s : State} {m : MethodId} {args : Array Value} {below : List Frame} {meth : Method} {c : Code} {D : va_G} {A : Nat → Prop} {ad : Nat → Nat} {ca : Nat → ClassId} (o : Int32) (C0 : z_cx z_ROp b_Op_bytesOfE 1 (some .int) D (z_Kt ca) A p s m args meth c) (q : z_Sg) (h : k_Op_bytesOfE_156 q = some o) : ∀ (H : Heap) (locs : List Loc) (ls : Array Slot), z_wd D (z_K ad ca q) A s H locs → lv_has ls 1 [] → W p l e (z_rm 2 40) s m args below meth c H locs 0 0 (z_qi below D (z_Kt ca) (z_K ad ca q) A s args o) (F0 m 156 ls []) := by
  obtain ⟨hx, hb, hr, hlk, hml, hown, hts, hK, hA⟩ := id C0
  intro H locs ls hw hl
  refine lv_iconst (v := (2 : Int32)) hx hb d_Op_bytesOfE_156 (by decide) ?_
  have ho := Option.some.inj h
  subst ho
  exact z_rti C0 hw d_Op_bytesOfE_157
set_option maxHeartbeats 4000000 in
set_option maxRecDepth 100000 in
theorem w_Op_bytesOfE_223 {p : Program} {l : Launch} {e : Env} {s : State} {m : MethodId} {args : Array Value} {below : List Frame} {meth : Method} {c : Code} {D : va_G} {A : Nat → Prop} {ad : Nat → Nat} {ca : Nat → ClassId} (o : Int32) (C0 : z_cx z_ROp b_Op_bytesOfE 1 (some .int) D (z_Kt ca) A p s m args meth c) (q : z_Sg) (t0 : Int32) (h : k_Op_bytesOfE_223 t0 q = some o) : ∀ (H : Heap) (locs : List Loc) (ls : Array Slot), z_wd D (z_K ad ca q) A s H locs → lv_has ls 1 [] → W p l e (z_rm 2 40) s m args below meth c H locs 0 0 (z_qi below D (z_Kt ca) (z_K ad ca q) A s args o) (F0 m 223 ls [.int t0]) := by
  obtain ⟨hx, hb, hr, hlk, hml, hown, hts, hK, hA⟩ := id C0
  intro H locs ls hw hl
  have ho := Option.some.inj h
  subst ho
  exact z_rti C0 hw d_Op_bytesOfE_223
set_option maxHeartbeats 4000000 in
set_option maxRecDepth 100000 in
theorem w_Op_bytesOfE_194 {p : Program} {l : Launch} {e : Env} {s : State} {m : MethodId} {args : Array Value} {below : List Frame} {meth : Method} {c : Code} {D : va_G} {A : Nat → Prop} {ad : Nat → Nat} {ca : Nat → ClassId} (o : Int32) (C0 : z_cx z_ROp b_Op_bytesOfE 1 (some .int) D (z_Kt ca) A p s m args meth c) (q : z_Sg) (t0 : Int32) (h : k_Op_bytesOfE_194 t0 q = some o) : ∀ (H : Heap) (locs : List Loc) (ls : Array Slot), z_wd D (z_K ad ca q) A s H locs → lv_has ls 1 [] → W p l e (z_rm 2 40) s m args below meth c H locs 0 0 (z_qi below D (z_Kt ca) (z_K ad ca q) A s args o) (F0 m 194 ls [.int t0]) := by
  obtain ⟨hx, hb, hr, hlk, hml, hown, hts, hK, hA⟩ := id C0
  intro H locs ls hw hl
  have ho := Option.some.inj h
  subst ho
  exact z_rti C0 hw d_Op_bytesOfE_194
set_option maxHeartbeats 4000000 in
set_option maxRecDepth 100000 in
theorem c_Op_bytesOfE {l : Launch} {D : va_G} {ad : Nat → Nat} {ca : Nat → ClassId} (q : z_Sg) (o : Int32) (h : f_Op_bytesOfE q = some o) : z_ci l y_Op_bytesOfE b_Op_bytesOfE 1 (some .int) 2 40 D (z_Kt ca) (z_K ad ca q) (z_K ad ca q) [.ref (ad 6)] o := by
  refine z_ci_of (own := z_ROp) (by decide) rfl ?_
  intro p e s m below meth c A C0 hw
  obtain ⟨hx, hb, hr, hlk, hml, hown, hts, hK, hA⟩ := id C0
  generalize hH : s.heap = H at hw ⊢
  generalize hlo : ([] : List Loc) = locs at hw ⊢
  refine z_entry (lv := [(0, .ref (ad 6))]) (Nat.le_of_ble_eq_true rfl) rfl (fun ls hl => ?_)
  unfold f_Op_bytesOfE at h
  refine lv_aload_n hx hb d_Op_bytesOfE_0 rfl (lv_at hl 0 rfl) ?_
  refine gfK_6_code C0 hw fl_Op_15 d_Op_bytesOfE_1 ?_
  refine gfK_5_opcode C0 hw fl_Op_36 d_Op_bytesOfE_4 ?_
  by_cases c1 : (z_gI q 11) = (99 : Int32)
  · have h := ok_t h c1
    refine lv_lookup (off := 81) (tgt := 88) hx hb d_Op_bytesOfE_7 (by decide) (by rw [c1]; rfl) (by decide) ?_
    refine lv_aload_n hx hb d_Op_bytesOfE_88 rfl (lv_at hl 0 rfl) ?_
    refine gfK_6_code C0 hw fl_Op_15 d_Op_bytesOfE_89 ?_
    obtain ⟨r2, er2, h⟩ := ok_b h
    refine z_vi (rest := []) C0 hw (c_De_sizeV q r2 er2) mw_De_sizeV ml_Op_67 5 rfl ⟨Nat.le_of_ble_eq_true rfl, Nat.le_of_ble_eq_true rfl⟩ ⟨Nat.le_refl 0, Nat.le_refl 0⟩ rfl hl.1 rfl (Nat.le_of_ble_eq_true rfl) d_Op_bytesOfE_92 (fun H locs hw => ?_)
    refine lv_iconst (v := (4 : Int32)) hx hb d_Op_bytesOfE_95 (by decide) ?_
    obtain ⟨r3, er3, h⟩ := ok_b h
    refine z_si (rest := []) C0 hw (c_Ma_min r2 (4 : Int32) q r3 er3) mw_Ma_min ml_Op_70 ⟨Nat.le_of_ble_eq_true rfl, Nat.le_of_ble_eq_true rfl⟩ ⟨Nat.le_refl 0, Nat.le_refl 0⟩ rfl hl.1 rfl (Nat.le_of_ble_eq_true rfl) d_Op_bytesOfE_96 (fun H locs hw => ?_)
    have ho := Option.some.inj h
    subst ho
    exact z_rti C0 hw d_Op_bytesOfE_99
  have h := ok_f h c1
  by_cases c4 : (z_gI q 11) = (143 : Int32)
  · have h := ok_t h c4
    refine lv_lookup (off := 93) (tgt := 100) hx hb d_Op_bytesOfE_7 (by decide) (by rw [c4]; rfl) (by decide) ?_
    refine lv_aload_n hx hb d_Op_bytesOfE_100 rfl (lv_at hl 0 rfl) ?_
    refine gfK_6_code C0 hw fl_Op_15 d_Op_bytesOfE_101 ?_
    obtain ⟨r5, er5, h⟩ := ok_b h
    refine z_vi (rest := []) C0 hw (c_De_sizeOnStack q r5 er5) mw_De_sizeOnStack ml_Op_76 5 rfl ⟨Nat.le_of_ble_eq_true rfl, Nat.le_of_ble_eq_true rfl⟩ ⟨Nat.le_refl 0, Nat.le_refl 0⟩ rfl hl.1 rfl (Nat.le_of_ble_eq_true rfl) d_Op_bytesOfE_104 (fun H locs hw => ?_)
    have ho := Option.some.inj h
    subst ho
    exact z_rti C0 hw d_Op_bytesOfE_107
  have h := ok_f h c4
  by_cases c6 : (z_gI q 11) = (255 : Int32)
  · have h := ok_t h c6
    refine lv_lookup (off := 101) (tgt := 108) hx hb d_Op_bytesOfE_7 (by decide) (by rw [c6]; rfl) (by decide) ?_
    refine lv_aload_n hx hb d_Op_bytesOfE_108 rfl (lv_at hl 0 rfl) ?_
    refine gfK_6_code C0 hw fl_Op_15 d_Op_bytesOfE_109 ?_
    refine gfK_5_reg C0 hw fl_Op_79 d_Op_bytesOfE_112 ?_
    refine lv_bipush (v := (6 : Int32)) hx hb d_Op_bytesOfE_115 (by decide) ?_
    refine lv_icmp_ne (tgt := 130) hx hb d_Op_bytesOfE_117 (by decide) (fun c7 => ?_) (fun c7 => ?_)
    · have h := ok_f h c7
      refine lv_aload_n hx hb d_Op_bytesOfE_130 rfl (lv_at hl 0 rfl) ?_
      refine gfK_6_code C0 hw fl_Op_15 d_Op_bytesOfE_131 ?_
      refine gfK_5_reg C0 hw fl_Op_79 d_Op_bytesOfE_134 ?_
      refine lv_iconst (v := (2 : Int32)) hx hb d_Op_bytesOfE_137 (by decide) ?_
      refine lv_icmp_ge (tgt := 151) hx hb d_Op_bytesOfE_138 (by decide) (fun c8 => ?_) (fun c8 => ?_)
      · have h := ok_t h c8
        refine lv_bipush (v := (8 : Int32)) hx hb d_Op_bytesOfE_151 (by decide) ?_
        exact w_Op_bytesOfE_153 o C0 q (8 : Int32) h H locs ls hw (lv_sub hl [] rfl)
      · have h := ok_f h c8
        refine lv_aload_n hx hb d_Op_bytesOfE_141 rfl (lv_at hl 0 rfl) ?_
        refine gfK_6_code C0 hw fl_Op_15 d_Op_bytesOfE_142 ?_
        obtain ⟨r9, er9, h⟩ := ok_b h
        refine z_vi (rest := []) C0 hw (c_De_sizeV q r9 er9) mw_De_sizeV ml_Op_67 5 rfl ⟨Nat.le_of_ble_eq_true rfl, Nat.le_of_ble_eq_true rfl⟩ ⟨Nat.le_refl 0, Nat.le_refl 0⟩ rfl hl.1 rfl (Nat.le_of_ble_eq_true rfl) d_Op_bytesOfE_145 (fun H locs hw => ?_)
        refine lv_goto (tgt := 153) hx hb d_Op_bytesOfE_148 (by decide) ?_
        exact w_Op_bytesOfE_153 o C0 q r9 h H locs ls hw (lv_sub hl [] rfl)
    · have h := ok_t h c7
      refine lv_aload_n hx hb d_Op_bytesOfE_120 rfl (lv_at hl 0 rfl) ?_
      refine gfK_6_code C0 hw fl_Op_15 d_Op_bytesOfE_121 ?_
      obtain ⟨r10, er10, h⟩ := ok_b h
      refine z_vi (rest := []) C0 hw (c_De_sizeOnStack q r10 er10) mw_De_sizeOnStack ml_Op_76 5 rfl ⟨Nat.le_of_ble_eq_true rfl, Nat.le_of_ble_eq_true rfl⟩ ⟨Nat.le_refl 0, Nat.le_refl 0⟩ rfl hl.1 rfl (Nat.le_of_ble_eq_true rfl) d_Op_bytesOfE_124 (fun H locs hw => ?_)
      refine lv_goto (tgt := 153) hx hb d_Op_bytesOfE_127 (by decide) ?_
      exact w_Op_bytesOfE_153 o C0 q r10 h H locs ls hw (lv_sub hl [] rfl)
  have h := ok_f h c6
  by_cases c11 : (z_gI q 11) = (432 : Int32)
  · have h := ok_t h c11
    refine lv_lookup (off := 147) (tgt := 154) hx hb d_Op_bytesOfE_7 (by decide) (by rw [c11]; rfl) (by decide) ?_
    exact w_Op_bytesOfE_154 o C0 q h H locs ls hw (lv_sub hl [] rfl)
  have h := ok_f h c11
  by_cases c12 : (z_gI q 11) = (438 : Int32)
  · have h := ok_t h c12
    refine lv_lookup (off := 147) (tgt := 154) hx hb d_Op_bytesOfE_7 (by decide) (by rw [c12]; rfl) (by decide) ?_
    exact w_Op_bytesOfE_154 o C0 q h H locs ls hw (lv_sub hl [] rfl)
  have h := ok_f h c12
  by_cases c13 : (z_gI q 11) = (439 : Int32)
  · have h := ok_t h c13
    refine lv_lookup (off := 149) (tgt := 156) hx hb d_Op_bytesOfE_7 (by decide) (by rw [c13]; rfl) (by decide) ?_
    exact w_Op_bytesOfE_156 o C0 q h H locs ls hw (lv_sub hl [] rfl)
  have h := ok_f h c13
  by_cases c14 : (z_gI q 11) = (446 : Int32)
  · have h := ok_t h c14
    refine lv_lookup (off := 147) (tgt := 154) hx hb d_Op_bytesOfE_7 (by decide) (by rw [c14]; rfl) (by decide) ?_
    exact w_Op_bytesOfE_154 o C0 q h H locs ls hw (lv_sub hl [] rfl)
  have h := ok_f h c14
  by_cases c15 : (z_gI q 11) = (447 : Int32)
  · have h := ok_t h c15
    refine lv_lookup (off := 149) (tgt := 156) hx hb d_Op_bytesOfE_7 (by decide) (by rw [c15]; rfl) (by decide) ?_
    exact w_Op_bytesOfE_156 o C0 q h H locs ls hw (lv_sub hl [] rfl)
  have h := ok_f h c15
  by_cases c16 : (z_gI q 11) = (448 : Int32)
  · have h := ok_t h c16
    refine lv_lookup (off := 147) (tgt := 154) hx hb d_Op_bytesOfE_7 (by decide) (by rw [c16]; rfl) (by decide) ?_
    exact w_Op_bytesOfE_154 o C0 q h H locs ls hw (lv_sub hl [] rfl)
  have h := ok_f h c16
  refine lv_lookup (off := 151) (tgt := 158) hx hb d_Op_bytesOfE_7 (by decide) (by show Op.lookupswitch.offset [(99, 81), (143, 93), (255, 101), (432, 147), (438, 147), (439, 149), (446, 147), (447, 149), (448, 147)] _ _ = _; rw [lv_osw (a := 99) c1 rfl, lv_osw (a := 143) c4 rfl, lv_osw (a := 255) c6 rfl, lv_osw (a := 432) c11 rfl, lv_osw (a := 438) c12 rfl, lv_osw (a := 439) c13 rfl, lv_osw (a := 446) c14 rfl, lv_osw (a := 447) c15 rfl, lv_osw (a := 448) c16 rfl]; rfl) (by decide) ?_
  refine lv_aload_n hx hb d_Op_bytesOfE_158 rfl (lv_at hl 0 rfl) ?_
  refine gfK_6_code C0 hw fl_Op_15 d_Op_bytesOfE_159 ?_
  refine gfK_5_opcode C0 hw fl_Op_36 d_Op_bytesOfE_162 ?_
  refine lv_sipush (v := (256 : Int32)) hx hb d_Op_bytesOfE_165 (by decide) ?_
  refine lv_icmp_ge (tgt := 195) hx hb d_Op_bytesOfE_168 (by decide) (fun c17 => ?_) (fun c17 => ?_)
  · have h := ok_t h c17
    refine lv_aload_n hx hb d_Op_bytesOfE_195 rfl (lv_at hl 0 rfl) ?_
    refine gfK_6_code C0 hw fl_Op_15 d_Op_bytesOfE_196 ?_
    refine gfK_5_opcode C0 hw fl_Op_36 d_Op_bytesOfE_199 ?_
    refine lv_sipush (v := (240 : Int32)) hx hb d_Op_bytesOfE_202 (by decide) ?_
    refine lv_iand hx hb d_Op_bytesOfE_205 ?_
    refine lv_sipush (v := (144 : Int32)) hx hb d_Op_bytesOfE_206 (by decide) ?_
    refine lv_icmp_ne (tgt := 216) hx hb d_Op_bytesOfE_209 (by decide) (fun c18 => ?_) (fun c18 => ?_)
    · have h := ok_f h c18
      refine lv_aload_n hx hb d_Op_bytesOfE_216 rfl (lv_at hl 0 rfl) ?_
      refine gfK_6_code C0 hw fl_Op_15 d_Op_bytesOfE_217 ?_
      obtain ⟨r19, er19, h⟩ := ok_b h
      refine z_vi (rest := []) C0 hw (c_De_sizeV q r19 er19) mw_De_sizeV ml_Op_67 5 rfl ⟨Nat.le_of_ble_eq_true rfl, Nat.le_of_ble_eq_true rfl⟩ ⟨Nat.le_refl 0, Nat.le_refl 0⟩ rfl hl.1 rfl (Nat.le_of_ble_eq_true rfl) d_Op_bytesOfE_220 (fun H locs hw => ?_)
      exact w_Op_bytesOfE_223 o C0 q r19 h H locs ls hw (lv_sub hl [] rfl)
    · have h := ok_t h c18
      refine lv_iconst (v := (1 : Int32)) hx hb d_Op_bytesOfE_212 (by decide) ?_
      refine lv_goto (tgt := 223) hx hb d_Op_bytesOfE_213 (by decide) ?_
      exact w_Op_bytesOfE_223 o C0 q (1 : Int32) h H locs ls hw (lv_sub hl [] rfl)
  · have h := ok_f h c17
    refine lv_aload_n hx hb d_Op_bytesOfE_171 rfl (lv_at hl 0 rfl) ?_
    refine gfK_6_code C0 hw fl_Op_15 d_Op_bytesOfE_172 ?_
    refine gfK_5_opcode C0 hw fl_Op_36 d_Op_bytesOfE_175 ?_
    refine lv_iconst (v := (1 : Int32)) hx hb d_Op_bytesOfE_178 (by decide) ?_
    refine lv_iand hx hb d_Op_bytesOfE_179 ?_
    refine lv_if_ne (tgt := 187) hx hb d_Op_bytesOfE_180 (by decide) (fun c20 => ?_) (fun c20 => ?_)
    · have h := ok_f h c20
      refine lv_aload_n hx hb d_Op_bytesOfE_187 rfl (lv_at hl 0 rfl) ?_
      refine gfK_6_code C0 hw fl_Op_15 d_Op_bytesOfE_188 ?_
      obtain ⟨r21, er21, h⟩ := ok_b h
      refine z_vi (rest := []) C0 hw (c_De_sizeV q r21 er21) mw_De_sizeV ml_Op_67 5 rfl ⟨Nat.le_of_ble_eq_true rfl, Nat.le_of_ble_eq_true rfl⟩ ⟨Nat.le_refl 0, Nat.le_refl 0⟩ rfl hl.1 rfl (Nat.le_of_ble_eq_true rfl) d_Op_bytesOfE_191 (fun H locs hw => ?_)
      exact w_Op_bytesOfE_194 o C0 q r21 h H locs ls hw (lv_sub hl [] rfl)
    · have h := ok_t h c20
      refine lv_iconst (v := (1 : Int32)) hx hb d_Op_bytesOfE_183 (by decide) ?_
      refine lv_goto (tgt := 194) hx hb d_Op_bytesOfE_184 (by decide) ?_
      exact w_Op_bytesOfE_194 o C0 q (1 : Int32) h H locs ls hw (lv_sub hl [] rfl)
def k_Ma_floorDiv_27 (x4 : Int64) (q : z_Sg) : Option Int64 :=
  some x4
def f_Ma_floorDiv (x0 : Int64) (x2 : Int64) (q : z_Sg) : Option Int64 :=
  if x2 = 0 then none else (z_nm ((x0 / x2)) (fun n2 => if (0 : Int64) ≤ (x0 ^^^ x2) then (k_Ma_floorDiv_27 n2 q) else (if (n2 * x2) = x0 then (k_Ma_floorDiv_27 n2 q) else (some (n2 - (1 : Int64))))))
set_option maxHeartbeats 4000000 in
set_option maxRecDepth 100000 in
theorem w_Ma_floorDiv_27 {p : Program} {l : Launch} {e : Env} {s : State} {m : MethodId} {args : Array Value} {below : List Frame} {meth : Method} {c : Code} {D : va_G} {A : Nat → Prop} {ad : Nat → Nat} {ca : Nat → ClassId} (o : Int64) (C0 : z_cx z_RMa b_Ma_floorDiv 6 (some .long) D (z_Kt ca) A p s m args meth c) (q : z_Sg) (x4 : Int64) (h : k_Ma_floorDiv_27 x4 q = some o) : ∀ (H : Heap) (locs : List Loc) (ls : Array Slot), z_wd D (z_K ad ca q) A s H locs → lv_has ls 6 [(4, .long x4)] → W p l e (z_rm 0 0) s m args below meth c H locs 0 0 (z_ql below D (z_Kt ca) (z_K ad ca q) A s args o) (F0 m 27 ls []) := by
  obtain ⟨hx, hb, hr, hlk, hml, hown, hts, hK, hA⟩ := id C0
  intro H locs ls hw hl
  refine lv_lload hx hb d_Ma_floorDiv_27 (lv_at hl 0 rfl) ?_
  have ho := Option.some.inj h
  subst ho
  exact z_rtl C0 hw d_Ma_floorDiv_29
set_option maxHeartbeats 4000000 in
set_option maxRecDepth 100000 in
theorem c_Ma_floorDiv {l : Launch} {D : va_G} {ad : Nat → Nat} {ca : Nat → ClassId} (x0 : Int64) (x2 : Int64) (q : z_Sg) (o : Int64) (h : f_Ma_floorDiv x0 x2 q = some o) : z_cl l y_Ma_floorDiv b_Ma_floorDiv 6 (some .long) 0 0 D (z_Kt ca) (z_K ad ca q) (z_K ad ca q) [.long x0, .long x2] o := by
  refine z_clJ_of (own := z_RMa) (by decide +kernel) rfl ?_
  intro p e s m below meth c A C0 hw
  obtain ⟨hx, hb, hr, hlk, hml, hown, hts, hK, hA⟩ := id C0
  generalize hH : s.heap = H at hw ⊢
  generalize hlo : ([] : List Loc) = locs at hw ⊢
  refine z_entry (lv := [(0, .long x0), (2, .long x2)]) (Nat.le_of_ble_eq_true rfl) rfl (fun ls hl => ?_)
  unfold f_Ma_floorDiv at h
  refine lv_lload_n hx hb d_Ma_floorDiv_0 rfl (lv_at hl 0 rfl) ?_
  refine lv_lload_n hx hb d_Ma_floorDiv_1 rfl (lv_at hl 1 rfl) ?_
  obtain ⟨b1, h⟩ := ok_g h
  refine lv_ldiv hx hb d_Ma_floorDiv_2 b1 ?_
  obtain ⟨n2, en2, h⟩ := ok_n h
  refine z_tl en2 ?_
  refine lv_lstore (lv' := [(4, .long n2), (0, .long x0), (2, .long x2)]) hx hb d_Ma_floorDiv_3 hl (by decide) rfl (fun ls hl => ?_)
  refine lv_lload_n hx hb d_Ma_floorDiv_5 rfl (lv_at hl 1 rfl) ?_
  refine lv_lload_n hx hb d_Ma_floorDiv_6 rfl (lv_at hl 2 rfl) ?_
  refine lv_lxor hx hb d_Ma_floorDiv_7 ?_
  refine lv_lconst (v := (0 : Int64)) hx hb d_Ma_floorDiv_8 (by decide) ?_
  refine W.lcmp hx hb d_Ma_floorDiv_9 ?_
  refine lv_if_ge (tgt := 27) hx hb d_Ma_floorDiv_10 (by decide) (fun c3 => ?_) (fun c3 => ?_)
  · have h := ok_t h ((lg_cmp_ge _ _).mp c3)
    exact w_Ma_floorDiv_27 o C0 q n2 h H locs ls hw (lv_sub hl [0] rfl)
  · have h := ok_f h (fun z => c3 ((lg_cmp_ge _ _).mpr z))
    refine lv_lload hx hb d_Ma_floorDiv_13 (lv_at hl 0 rfl) ?_
    refine lv_lload_n hx hb d_Ma_floorDiv_15 rfl (lv_at hl 2 rfl) ?_
    refine lv_lmul hx hb d_Ma_floorDiv_16 ?_
    refine lv_lload_n hx hb d_Ma_floorDiv_17 rfl (lv_at hl 1 rfl) ?_
    refine W.lcmp hx hb d_Ma_floorDiv_18 ?_
    refine lv_if_eq (tgt := 27) hx hb d_Ma_floorDiv_19 (by decide) (fun c4 => ?_) (fun c4 => ?_)
    · have h := ok_t h ((lg_cmp_eq _ _).mp c4)
      exact w_Ma_floorDiv_27 o C0 q n2 h H locs ls hw (lv_sub hl [0] rfl)
    · have h := ok_f h (fun z => c4 ((lg_cmp_eq _ _).mpr z))
      refine lv_lload hx hb d_Ma_floorDiv_22 (lv_at hl 0 rfl) ?_
      refine lv_lconst (v := (1 : Int64)) hx hb d_Ma_floorDiv_24 (by decide) ?_
      refine lv_lsub hx hb d_Ma_floorDiv_25 ?_
      have ho := Option.some.inj h
      subst ho
      exact z_rtl C0 hw d_Ma_floorDiv_26
def k_Op_bitDistance_48 (q : z_Sg) : Option Int64 :=
  (f_Op_g (z_gI q 15) q).bind (fun r2 => (f_Ar_signed r2 (z_gI q 15) q).bind (fun r3 => (f_Ma_floorDiv r3 ((8 : Int64) * ((z_gI q 15).toInt64)) q).bind (fun r4 => some (r4 * ((z_gI q 15).toInt64)))))
def f_Op_bitDistance (q : z_Sg) : Option Int64 :=
  if (z_gI q 11) = (419 : Int32) then (k_Op_bitDistance_48 q) else (if (z_gI q 11) = (427 : Int32) then (k_Op_bitDistance_48 q) else (if (z_gI q 11) = (435 : Int32) then (k_Op_bitDistance_48 q) else (if (z_gI q 11) = (443 : Int32) then (k_Op_bitDistance_48 q) else (some (0 : Int64)))))
set_option maxHeartbeats 4000000 in
set_option maxRecDepth 100000 in
theorem w_Op_bitDistance_48 {p : Program} {l : Launch} {e : Env} {s : State} {m : MethodId} {args : Array Value} {below : List Frame} {meth : Method} {c : Code} {D : va_G} {A : Nat → Prop} {ad : Nat → Nat} {ca : Nat → ClassId} (o : Int64) (C0 : z_cx z_ROp b_Op_bitDistance 1 (some .long) D (z_Kt ca) A p s m args meth c) (q : z_Sg) (h : k_Op_bitDistance_48 q = some o) : ∀ (H : Heap) (locs : List Loc) (ls : Array Slot), z_wd D (z_K ad ca q) A s H locs → lv_has ls 1 [(0, .ref (ad 6))] → W p l e (z_rm 3 65) s m args below meth c H locs 0 0 (z_ql below D (z_Kt ca) (z_K ad ca q) A s args o) (F0 m 48 ls []) := by
  obtain ⟨hx, hb, hr, hlk, hml, hown, hts, hK, hA⟩ := id C0
  intro H locs ls hw hl
  refine lv_aload_n hx hb d_Op_bitDistance_48 rfl (lv_at hl 0 rfl) ?_
  refine lv_aload_n hx hb d_Op_bitDistance_49 rfl (lv_at hl 0 rfl) ?_
  refine gfK_6_bytes C0 hw fl_Op_27 d_Op_bitDistance_50 ?_
  obtain ⟨r2, er2, h⟩ := ok_b h
  refine z_vl (rest := []) C0 hw (c_Op_g (z_gI q 15) q r2 er2) mw_Op_g ml_Op_82 6 rfl ⟨Nat.le_of_ble_eq_true rfl, Nat.le_of_ble_eq_true rfl⟩ ⟨Nat.le_refl 0, Nat.le_refl 0⟩ rfl hl.1 rfl (Nat.le_of_ble_eq_true rfl) d_Op_bitDistance_53 (fun H locs hw => ?_)
  refine lv_aload_n hx hb d_Op_bitDistance_56 rfl (lv_at hl 0 rfl) ?_
  refine gfK_6_bytes C0 hw fl_Op_27 d_Op_bitDistance_57 ?_
  obtain ⟨r3, er3, h⟩ := ok_b h
  refine z_sl (rest := []) C0 hw (c_Ar_signed r2 (z_gI q 15) q r3 er3) mw_Ar_signed ml_Op_86 ⟨Nat.le_of_ble_eq_true rfl, Nat.le_of_ble_eq_true rfl⟩ ⟨Nat.le_refl 0, Nat.le_refl 0⟩ rfl hl.1 rfl (Nat.le_of_ble_eq_true rfl) d_Op_bitDistance_60 (fun H locs hw => ?_)
  refine lv_ldc2 (own := z_ROp) hx hb hown (hts _ kl_Op_92) d_Op_bitDistance_63 ?_
  refine lv_aload_n hx hb d_Op_bitDistance_66 rfl (lv_at hl 0 rfl) ?_
  refine gfK_6_bytes C0 hw fl_Op_27 d_Op_bitDistance_67 ?_
  refine lv_i2l hx hb d_Op_bitDistance_70 rfl ?_
  refine lv_lmul hx hb d_Op_bitDistance_71 ?_
  obtain ⟨r4, er4, h⟩ := ok_b h
  refine z_sl (rest := []) C0 hw (c_Ma_floorDiv r3 ((8 : Int64) * ((z_gI q 15).toInt64)) q r4 er4) mw_Ma_floorDiv ml_Op_94 ⟨Nat.le_of_ble_eq_true rfl, Nat.le_of_ble_eq_true rfl⟩ ⟨Nat.le_refl 0, Nat.le_refl 0⟩ rfl hl.1 rfl (Nat.le_of_ble_eq_true rfl) d_Op_bitDistance_72 (fun H locs hw => ?_)
  refine lv_aload_n hx hb d_Op_bitDistance_75 rfl (lv_at hl 0 rfl) ?_
  refine gfK_6_bytes C0 hw fl_Op_27 d_Op_bitDistance_76 ?_
  refine lv_i2l hx hb d_Op_bitDistance_79 rfl ?_
  refine lv_lmul hx hb d_Op_bitDistance_80 ?_
  have ho := Option.some.inj h
  subst ho
  exact z_rtl C0 hw d_Op_bitDistance_81
set_option maxHeartbeats 4000000 in
set_option maxRecDepth 100000 in
theorem c_Op_bitDistance {l : Launch} {D : va_G} {ad : Nat → Nat} {ca : Nat → ClassId} (q : z_Sg) (o : Int64) (h : f_Op_bitDistance q = some o) : z_cl l y_Op_bitDistance b_Op_bitDistance 1 (some .long) 3 65 D (z_Kt ca) (z_K ad ca q) (z_K ad ca q) [.ref (ad 6)] o := by
  refine z_cl_of (own := z_ROp) (by decide) rfl ?_
  intro p e s m below meth c A C0 hw
  obtain ⟨hx, hb, hr, hlk, hml, hown, hts, hK, hA⟩ := id C0
  generalize hH : s.heap = H at hw ⊢
  generalize hlo : ([] : List Loc) = locs at hw ⊢
  refine z_entry (lv := [(0, .ref (ad 6))]) (Nat.le_of_ble_eq_true rfl) rfl (fun ls hl => ?_)
  unfold f_Op_bitDistance at h
  refine lv_aload_n hx hb d_Op_bitDistance_0 rfl (lv_at hl 0 rfl) ?_
  refine gfK_6_code C0 hw fl_Op_15 d_Op_bitDistance_1 ?_
  refine gfK_5_opcode C0 hw fl_Op_36 d_Op_bitDistance_4 ?_
  by_cases c1 : (z_gI q 11) = (419 : Int32)
  · have h := ok_t h c1
    refine lv_lookup (off := 41) (tgt := 48) hx hb d_Op_bitDistance_7 (by decide) (by rw [c1]; rfl) (by decide) ?_
    exact w_Op_bitDistance_48 o C0 q h H locs ls hw (lv_sub hl [0] rfl)
  have h := ok_f h c1
  by_cases c5 : (z_gI q 11) = (427 : Int32)
  · have h := ok_t h c5
    refine lv_lookup (off := 41) (tgt := 48) hx hb d_Op_bitDistance_7 (by decide) (by rw [c5]; rfl) (by decide) ?_
    exact w_Op_bitDistance_48 o C0 q h H locs ls hw (lv_sub hl [0] rfl)
  have h := ok_f h c5
  by_cases c6 : (z_gI q 11) = (435 : Int32)
  · have h := ok_t h c6
    refine lv_lookup (off := 41) (tgt := 48) hx hb d_Op_bitDistance_7 (by decide) (by rw [c6]; rfl) (by decide) ?_
    exact w_Op_bitDistance_48 o C0 q h H locs ls hw (lv_sub hl [0] rfl)
  have h := ok_f h c6
  by_cases c7 : (z_gI q 11) = (443 : Int32)
  · have h := ok_t h c7
    refine lv_lookup (off := 41) (tgt := 48) hx hb d_Op_bitDistance_7 (by decide) (by rw [c7]; rfl) (by decide) ?_
    exact w_Op_bitDistance_48 o C0 q h H locs ls hw (lv_sub hl [0] rfl)
  have h := ok_f h c7
  refine lv_lookup (off := 75) (tgt := 82) hx hb d_Op_bitDistance_7 (by decide) (by show Op.lookupswitch.offset [(419, 41), (427, 41), (435, 41), (443, 41)] _ _ = _; rw [lv_osw (a := 419) c1 rfl, lv_osw (a := 427) c5 rfl, lv_osw (a := 435) c6 rfl, lv_osw (a := 443) c7 rfl]; rfl) (by decide) ?_
  refine lv_lconst (v := (0 : Int64)) hx hb d_Op_bitDistance_82 (by decide) ?_
  have ho := Option.some.inj h
  subst ho
  exact z_rtl C0 hw d_Op_bitDistance_83
