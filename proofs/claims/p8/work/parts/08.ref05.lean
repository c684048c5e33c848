def k_Mo_more_224 (q : z_Sg) : Option z_Sg :=
  some q
def k_Mo_more_209 (x3 : Int64) (q : z_Sg) : Option z_Sg :=
  if (z_gI q 8) = (2 : Int32) then ((f_Mo_push x3 (8 : Int32) q).bind (fun r13 => k_Mo_more_224 r13)) else (k_Mo_more_224 q)
def k_Mo_more_129 (x1 : Int32) (x3 : Int32) (t1 : Int64) (t2 : Int64) (t3 : Int32) (t4 : Int32) (q : z_Sg) : Option z_Sg :=
  (f_Mo_add t1 t2 t3 t4 x1 q).bind (fun r23 => if z_bad (0 : Int32) 7 then none else (z_nm (z_sN r23.2 1 (0 : Int32).toNatClampNeg (vp_nar .boolean x3)) (fun q25 => (f_Mo_setE x1 r23.1 q25).bind (fun r26 => k_Mo_more_224 r26))))
def k_Mo_more_65 (x1 : Int32) (q : z_Sg) : Option z_Sg :=
  (f_Mo_takePlace q).bind (fun r4 => z_nm (z_sL r4 7 ((z_gL r4 0) + ((z_gI r4 6).toInt64))) (fun q5 => if (z_gI q5 4) = (-1 : Int32) then (if (2 : Int32) ≤ (z_gI q5 8) then (if (z_gI q5 8) = (6 : Int32) then ((f_Mo_stackSize q5).bind (fun r15 => (f_Mo_e r15 (0 : Int32) q5).bind (fun r16 => (f_Mo_stackSize r16.2).bind (fun r17 => (f_Mo_push r16.1 r17 r16.2).bind (fun r18 => k_Mo_more_224 r18))))) else (z_nm ((z_gL q5 7)) (fun n9 => (f_Mo_e (8 : Int32) (0 : Int32) q5).bind (fun r10 => if (z_gI r10.2 4) = (-1 : Int32) then ((f_Mo_jump r10.1 r10.2).bind (fun r14 => k_Mo_more_209 n9 r14)) else (k_Mo_more_209 n9 r10.2))))) else (if z_bad (0 : Int32) 7 then none else (z_nm ((z_gN q5 1 (0 : Int32).toNatClampNeg)) (fun n20 => (f_Mo_e x1 (1 : Int32) q5).bind (fun r21 => if (z_gI r21.2 8) = (1 : Int32) then (k_Mo_more_129 x1 n20 r21.1 (1 : Int64) (0 : Int32) (1 : Int32) r21.2) else (k_Mo_more_129 x1 n20 r21.1 (1 : Int64) (0 : Int32) (0 : Int32) r21.2)))))) else (some q5)))
def k_Mo_more_54 (x1 : Int32) (t0 : Int32) (q : z_Sg) : Option z_Sg :=
  if t0 = 0 then ((f_Mo_refuse (6 : Int32) q).bind (fun r27 => k_Mo_more_65 x1 r27)) else (k_Mo_more_65 x1 q)
def k_Mo_more_49 (x1 : Int32) (q : z_Sg) : Option z_Sg :=
  k_Mo_more_54 x1 (1 : Int32) q
def k_Mo_more_53 (x1 : Int32) (q : z_Sg) : Option z_Sg :=
  k_Mo_more_54 x1 (0 : Int32) q
def k_Mo_more_42 (x1 : Int32) (q : z_Sg) : Option z_Sg :=
  if (z_gI q 16) = 0 then (k_Mo_more_49 x1 q) else (k_Mo_more_53 x1 q)
def f_Mo_more (x1 : Int32) (q : z_Sg) : Option z_Sg :=
  (f_Mo_takeMod q).bind (fun r1 => if (z_gI r1 8) < (2 : Int32) then (k_Mo_more_49 x1 r1) else (if x1 ≤ (1 : Int32) then (k_Mo_more_53 x1 r1) else (if (z_gI r1 8) = (6 : Int32) then (k_Mo_more_49 x1 r1) else (if (z_gI r1 8) = (2 : Int32) then (k_Mo_more_42 x1 r1) else (if (z_gI r1 8) = (4 : Int32) then (k_Mo_more_42 x1 r1) else (k_Mo_more_53 x1 r1))))))
set_option maxHeartbeats 4000000 in
set_option maxRecDepth 100000 in
theorem w_Mo_more_224 {p : Program} {l : Launch} {e : Env} {s : State} {m : MethodId} {args : Array Value} {below : List Frame} {meth : Method} {c : Code} {D : va_G} {A : Nat → Prop} {ad : Nat → Nat} {ca : Nat → ClassId} (o : z_Sg) (C0 : z_cx z_RMo b_Mo_more 7 none D (z_Mt ca) A p s m args meth c) (q : z_Sg) (h : k_Mo_more_224 q = some o) : ∀ (H : Heap) (locs : List Loc) (ls : Array Slot), z_wd D (z_M ad ca q) A s H locs → lv_has ls 7 [] → W p l e (z_rm 7 173) s m args below meth c H locs 0 0 (z_qv below D (z_Mt ca) (z_M ad ca o) A s args) (F0 m 224 ls []) := by
  obtain ⟨hx, hb, hr, hlk, hml, hown, hts, hK, hA⟩ := id C0
  intro H locs ls hw hl
  have ho := Option.some.inj h
  subst ho
  exact z_rtv C0 hw d_Mo_more_224
set_option maxHeartbeats 4000000 in
set_option maxRecDepth 100000 in
theorem w_Mo_more_209 {p : Program} {l : Launch} {e : Env} {s : State} {m : MethodId} {args : Array Value} {below : List Frame} {meth : Method} {c : Code} {D : va_G} {A : Nat → Prop} {ad : Nat → Nat} {ca : Nat → ClassId} (o : z_Sg) (C0 : z_cx z_RMo b_Mo_more 7 none D (z_Mt ca) A p s m args meth c) (q : z_Sg) (x3 : Int64) (h : k_Mo_more_209 x3 q = some o) : ∀ (H : Heap) (locs : List Loc) (ls : Array Slot), z_wd D (z_M ad ca q) A s H locs → lv_has ls 7 [(0, .ref (ad 0)), (3, .long x3)] → W p l e (z_rm 7 173) s m args below meth c H locs 0 0 (z_qv below D (z_Mt ca) (z_M ad ca o) A s args) (F0 m 209 ls []) := by
  obtain ⟨hx, hb, hr, hlk, hml, hown, hts, hK, hA⟩ := id C0
  intro H locs ls hw hl
  refine lv_aload_n hx hb d_Mo_more_209 rfl (lv_at hl 0 rfl) ?_
  refine gfM_0_reg C0 hw fl_Mo_139 d_Mo_more_210 ?_
  refine lv_iconst (v := (2 : Int32)) hx hb d_Mo_more_213 (by decide) ?_
  refine lv_icmp_ne (tgt := 224) hx hb d_Mo_more_214 (by decide) (fun c12 => ?_) (fun c12 => ?_)
  · have h := ok_f h c12
    exact w_Mo_more_224 o C0 q h H locs ls hw (lv_sub hl [] rfl)
  · have h := ok_t h c12
    refine lv_aload_n hx hb d_Mo_more_217 rfl (lv_at hl 0 rfl) ?_
    refine lv_lload_n hx hb d_Mo_more_218 rfl (lv_at hl 1 rfl) ?_
    refine lv_bipush (v := (8 : Int32)) hx hb d_Mo_more_219 (by decide) ?_
    obtain ⟨r13, er13, h⟩ := ok_b h
    refine z_vv (rest := []) C0 hw (c_Mo_push x3 (8 : Int32) q r13 er13) mw_Mo_push ml_Mo_310 0 rfl ⟨Nat.le_of_ble_eq_true rfl, Nat.le_of_ble_eq_true rfl⟩ ⟨Nat.le_refl 0, Nat.le_refl 0⟩ rfl hl.1 rfl (Nat.le_of_ble_eq_true rfl) d_Mo_more_221 (fun H locs hw => ?_)
    exact w_Mo_more_224 o C0 r13 h H locs ls hw (lv_sub hl [] rfl)
set_option maxHeartbeats 4000000 in
set_option maxRecDepth 100000 in
theorem w_Mo_more_129 {p : Program} {l : Launch} {e : Env} {s : State} {m : MethodId} {args : Array Value} {below : List Frame} {meth : Method} {c : Code} {D : va_G} {A : Nat → Prop} {ad : Nat → Nat} {ca : Nat → ClassId} (o : z_Sg) (C0 : z_cx z_RMo b_Mo_more 7 none D (z_Mt ca) A p s m args meth c) (q : z_Sg) (x1 : Int32) (x3 : Int32) (t1 : Int64) (t2 : Int64) (t3 : Int32) (t4 : Int32) (h : k_Mo_more_129 x1 x3 t1 t2 t3 t4 q = some o) : ∀ (H : Heap) (locs : List Loc) (ls : Array Slot), z_wd D (z_M ad ca q) A s H locs → lv_has ls 7 [(0, .ref (ad 0)), (1, .int x1), (3, .int x3)] → W p l e (z_rm 7 173) s m args below meth c H locs 0 0 (z_qv below D (z_Mt ca) (z_M ad ca o) A s args) (F0 m 129 ls [.int t4, .int t3, .long t2, .long t1, .ref (ad 0)]) := by
  obtain ⟨hx, hb, hr, hlk, hml, hown, hts, hK, hA⟩ := id C0
  intro H locs ls hw hl
  refine lv_iload_n hx hb d_Mo_more_129 rfl (lv_at hl 1 rfl) ?_
  obtain ⟨r23, er23, h⟩ := ok_b h
  refine z_vl (rest := []) C0 hw (c_Mo_add t1 t2 t3 t4 x1 q r23 er23) mw_Mo_add ml_Mo_225 0 rfl ⟨Nat.le_of_ble_eq_true rfl, Nat.le_of_ble_eq_true rfl⟩ ⟨Nat.le_refl 0, Nat.le_refl 0⟩ rfl hl.1 rfl (Nat.le_of_ble_eq_true rfl) d_Mo_more_130 (fun H locs hw => ?_)
  refine lv_lstore (lv' := [(4, .long r23.1), (0, .ref (ad 0)), (1, .int x1), (3, .int x3)]) hx hb d_Mo_more_133 hl (by decide) rfl (fun ls hl => ?_)
  refine lv_aload_n hx hb d_Mo_more_135 rfl (lv_at hl 1 rfl) ?_
  refine gfM_0_flag C0 hw fl_Mo_21 d_Mo_more_136 ?_
  refine lv_iconst (v := (0 : Int32)) hx hb d_Mo_more_139 (by decide) ?_
  refine lv_iload_n hx hb d_Mo_more_140 rfl (lv_at hl 3 rfl) ?_
  obtain ⟨b24, h⟩ := ok_g h
  refine asM_4 C0 hw b24 d_Mo_more_141 (fun H locs hw => ?_)
  obtain ⟨q25, eq25, h⟩ := ok_n h
  rw [← eq25] at hw
  refine lv_aload_n hx hb d_Mo_more_142 rfl (lv_at hl 1 rfl) ?_
  refine lv_iload_n hx hb d_Mo_more_143 rfl (lv_at hl 2 rfl) ?_
  refine lv_lload hx hb d_Mo_more_144 (lv_at hl 0 rfl) ?_
  obtain ⟨r26, er26, h⟩ := ok_b h
  refine z_vv (rest := []) C0 hw (c_Mo_setE x1 r23.1 q25 r26 er26) mw_Mo_setE ml_Mo_348 0 rfl ⟨Nat.le_of_ble_eq_true rfl, Nat.le_of_ble_eq_true rfl⟩ ⟨Nat.le_refl 0, Nat.le_refl 0⟩ rfl hl.1 rfl (Nat.le_of_ble_eq_true rfl) d_Mo_more_146 (fun H locs hw => ?_)
  refine lv_goto (tgt := 224) hx hb d_Mo_more_149 (by decide) ?_
  exact w_Mo_more_224 o C0 r26 h H locs ls hw (lv_sub hl [] rfl)
set_option maxHeartbeats 4000000 in
set_option maxRecDepth 100000 in
theorem w_Mo_more_65 {p : Program} {l : Launch} {e : Env} {s : State} {m : MethodId} {args : Array Value} {below : List Frame} {meth : Method} {c : Code} {D : va_G} {A : Nat → Prop} {ad : Nat → Nat} {ca : Nat → ClassId} (o : z_Sg) (C0 : z_cx z_RMo b_Mo_more 7 none D (z_Mt ca) A p s m args meth c) (q : z_Sg) (x1 : Int32) (h : k_Mo_more_65 x1 q = some o) : ∀ (H : Heap) (locs : List Loc) (ls : Array Slot), z_wd D (z_M ad ca q) A s H locs → lv_has ls 7 [(0, .ref (ad 0)), (1, .int x1)] → W p l e (z_rm 7 173) s m args below meth c H locs 0 0 (z_qv below D (z_Mt ca) (z_M ad ca o) A s args) (F0 m 65 ls []) := by
  obtain ⟨hx, hb, hr, hlk, hml, hown, hts, hK, hA⟩ := id C0
  intro H locs ls hw hl
  refine lv_aload_n hx hb d_Mo_more_65 rfl (lv_at hl 0 rfl) ?_
  obtain ⟨r4, er4, h⟩ := ok_b h
  refine z_vv (rest := []) C0 hw (c_Mo_takePlace q r4 er4) mw_Mo_takePlace ml_Mo_170 0 rfl ⟨Nat.le_of_ble_eq_true rfl, Nat.le_of_ble_eq_true rfl⟩ ⟨Nat.le_refl 0, Nat.le_refl 0⟩ rfl hl.1 rfl (Nat.le_of_ble_eq_true rfl) d_Mo_more_66 (fun H locs hw => ?_)
  refine lv_aload_n hx hb d_Mo_more_69 rfl (lv_at hl 0 rfl) ?_
  refine lv_aload_n hx hb d_Mo_more_70 rfl (lv_at hl 0 rfl) ?_
  refine gfM_0_next C0 hw fl_Mo_111 d_Mo_more_71 ?_
  refine lv_aload_n hx hb d_Mo_more_74 rfl (lv_at hl 0 rfl) ?_
  refine gfM_0_length C0 hw fl_Mo_108 d_Mo_more_75 ?_
  refine lv_i2l hx hb d_Mo_more_78 rfl ?_
  refine lv_ladd hx hb d_Mo_more_79 ?_
  refine pfM_0_goes C0 hw fl_Mo_173 d_Mo_more_80 (fun H locs hw => ?_)
  obtain ⟨q5, eq5, h⟩ := ok_n h
  rw [← eq5] at hw
  refine lv_aload_n hx hb d_Mo_more_83 rfl (lv_at hl 0 rfl) ?_
  refine gfM_0_refused C0 hw fl_Mo_28 d_Mo_more_84 ?_
  refine lv_iconst (v := (-1 : Int32)) hx hb d_Mo_more_87 (by decide) ?_
  refine lv_icmp_eq (tgt := 92) hx hb d_Mo_more_88 (by decide) (fun c6 => ?_) (fun c6 => ?_)
  · have h := ok_t h c6
    refine lv_aload_n hx hb d_Mo_more_92 rfl (lv_at hl 0 rfl) ?_
    refine gfM_0_reg C0 hw fl_Mo_139 d_Mo_more_93 ?_
    refine lv_iconst (v := (2 : Int32)) hx hb d_Mo_more_96 (by decide) ?_
    refine lv_icmp_ge (tgt := 152) hx hb d_Mo_more_97 (by decide) (fun c7 => ?_) (fun c7 => ?_)
    · have h := ok_t h c7
      refine lv_aload_n hx hb d_Mo_more_152 rfl (lv_at hl 0 rfl) ?_
      refine gfM_0_reg C0 hw fl_Mo_139 d_Mo_more_153 ?_
      refine lv_bipush (v := (6 : Int32)) hx hb d_Mo_more_156 (by decide) ?_
      refine lv_icmp_ne (tgt := 181) hx hb d_Mo_more_158 (by decide) (fun c8 => ?_) (fun c8 => ?_)
      · have h := ok_f h c8
        refine lv_aload_n hx hb d_Mo_more_181 rfl (lv_at hl 0 rfl) ?_
        refine gfM_0_goes C0 hw fl_Mo_173 d_Mo_more_182 ?_
        obtain ⟨n9, en9, h⟩ := ok_n h
        refine z_tl en9 ?_
        refine lv_lstore_n (lv' := [(3, .long n9), (0, .ref (ad 0)), (1, .int x1)]) hx hb d_Mo_more_185 rfl hl (by decide) rfl (fun ls hl => ?_)
        refine lv_aload_n hx hb d_Mo_more_186 rfl (lv_at hl 1 rfl) ?_
        refine lv_bipush (v := (8 : Int32)) hx hb d_Mo_more_187 (by decide) ?_
        refine lv_iconst (v := (0 : Int32)) hx hb d_Mo_more_189 (by decide) ?_
        obtain ⟨r10, er10, h⟩ := ok_b h
        refine z_vl (rest := []) C0 hw (c_Mo_e (8 : Int32) (0 : Int32) q5 r10 er10) mw_Mo_e ml_Mo_338 0 rfl ⟨Nat.le_of_ble_eq_true rfl, Nat.le_of_ble_eq_true rfl⟩ ⟨Nat.le_refl 0, Nat.le_refl 0⟩ rfl hl.1 rfl (Nat.le_of_ble_eq_true rfl) d_Mo_more_190 (fun H locs hw => ?_)
        refine lv_lstore (lv' := [(5, .long r10.1), (3, .long n9), (0, .ref (ad 0)), (1, .int x1)]) hx hb d_Mo_more_193 hl (by decide) rfl (fun ls hl => ?_)
        refine lv_aload_n hx hb d_Mo_more_195 rfl (lv_at hl 2 rfl) ?_
        refine gfM_0_refused C0 hw fl_Mo_28 d_Mo_more_196 ?_
        refine lv_iconst (v := (-1 : Int32)) hx hb d_Mo_more_199 (by decide) ?_
        refine lv_icmp_ne (tgt := 209) hx hb d_Mo_more_200 (by decide) (fun c11 => ?_) (fun c11 => ?_)
        · have h := ok_f h c11
          exact w_Mo_more_209 o C0 r10.2 n9 h H locs ls hw (lv_sub hl [2, 1] rfl)
        · have h := ok_t h c11
          refine lv_aload_n hx hb d_Mo_more_203 rfl (lv_at hl 2 rfl) ?_
          refine lv_lload hx hb d_Mo_more_204 (lv_at hl 0 rfl) ?_
          obtain ⟨r14, er14, h⟩ := ok_b h
          refine z_vv (rest := []) C0 hw (c_Mo_jump r10.1 r10.2 r14 er14) mw_Mo_jump ml_Mo_431 0 rfl ⟨Nat.le_of_ble_eq_true rfl, Nat.le_of_ble_eq_true rfl⟩ ⟨Nat.le_refl 0, Nat.le_refl 0⟩ rfl hl.1 rfl (Nat.le_of_ble_eq_true rfl) d_Mo_more_206 (fun H locs hw => ?_)
          exact w_Mo_more_209 o C0 r14 n9 h H locs ls hw (lv_sub hl [2, 1] rfl)
      · have h := ok_t h c8
        refine lv_aload_n hx hb d_Mo_more_161 rfl (lv_at hl 0 rfl) ?_
        refine lv_aload_n hx hb d_Mo_more_162 rfl (lv_at hl 0 rfl) ?_
        refine lv_aload_n hx hb d_Mo_more_163 rfl (lv_at hl 0 rfl) ?_
        obtain ⟨r15, er15, h⟩ := ok_b h
        refine z_vi (rest := [.ref (ad 0), .ref (ad 0)]) C0 hw (c_Mo_stackSize q5 r15 er15) mw_Mo_stackSize ml_Mo_307 0 rfl ⟨Nat.le_of_ble_eq_true rfl, Nat.le_of_ble_eq_true rfl⟩ ⟨Nat.le_refl 0, Nat.le_refl 0⟩ rfl hl.1 rfl (Nat.le_of_ble_eq_true rfl) d_Mo_more_164 (fun H locs hw => ?_)
        refine lv_iconst (v := (0 : Int32)) hx hb d_Mo_more_167 (by decide) ?_
        obtain ⟨r16, er16, h⟩ := ok_b h
        refine z_vl (rest := [.ref (ad 0)]) C0 hw (c_Mo_e r15 (0 : Int32) q5 r16 er16) mw_Mo_e ml_Mo_338 0 rfl ⟨Nat.le_of_ble_eq_true rfl, Nat.le_of_ble_eq_true rfl⟩ ⟨Nat.le_refl 0, Nat.le_refl 0⟩ rfl hl.1 rfl (Nat.le_of_ble_eq_true rfl) d_Mo_more_168 (fun H locs hw => ?_)
        refine lv_aload_n hx hb d_Mo_more_171 rfl (lv_at hl 0 rfl) ?_
        obtain ⟨r17, er17, h⟩ := ok_b h
        refine z_vi (rest := [.long r16.1, .ref (ad 0)]) C0 hw (c_Mo_stackSize r16.2 r17 er17) mw_Mo_stackSize ml_Mo_307 0 rfl ⟨Nat.le_of_ble_eq_true rfl, Nat.le_of_ble_eq_true rfl⟩ ⟨Nat.le_refl 0, Nat.le_refl 0⟩ rfl hl.1 rfl (Nat.le_of_ble_eq_true rfl) d_Mo_more_172 (fun H locs hw => ?_)
        obtain ⟨r18, er18, h⟩ := ok_b h
        refine z_vv (rest := []) C0 hw (c_Mo_push r16.1 r17 r16.2 r18 er18) mw_Mo_push ml_Mo_310 0 rfl ⟨Nat.le_of_ble_eq_true rfl, Nat.le_of_ble_eq_true rfl⟩ ⟨Nat.le_refl 0, Nat.le_refl 0⟩ rfl hl.1 rfl (Nat.le_of_ble_eq_true rfl) d_Mo_more_175 (fun H locs hw => ?_)
        refine lv_goto (tgt := 224) hx hb d_Mo_more_178 (by decide) ?_
        exact w_Mo_more_224 o C0 r18 h H locs ls hw (lv_sub hl [] rfl)
    · have h := ok_f h c7
      refine lv_aload_n hx hb d_Mo_more_100 rfl (lv_at hl 0 rfl) ?_
      refine gfM_0_flag C0 hw fl_Mo_21 d_Mo_more_101 ?_
      refine lv_iconst (v := (0 : Int32)) hx hb d_Mo_more_104 (by decide) ?_
      obtain ⟨b19, h⟩ := ok_g h
      refine alM_4 C0 hw b19 d_Mo_more_105 ?_
      obtain ⟨n20, en20, h⟩ := ok_n h
      refine z_ti en20 ?_
      refine lv_istore_n (lv' := [(3, .int n20), (0, .ref (ad 0)), (1, .int x1)]) hx hb d_Mo_more_106 rfl hl (by decide) rfl (fun ls hl => ?_)
      refine lv_aload_n hx hb d_Mo_more_107 rfl (lv_at hl 1 rfl) ?_
      refine lv_aload_n hx hb d_Mo_more_108 rfl (lv_at hl 1 rfl) ?_
      refine lv_iload_n hx hb d_Mo_more_109 rfl (lv_at hl 2 rfl) ?_
      refine lv_iconst (v := (1 : Int32)) hx hb d_Mo_more_110 (by decide) ?_
      obtain ⟨r21, er21, h⟩ := ok_b h
      refine z_vl (rest := [.ref (ad 0)]) C0 hw (c_Mo_e x1 (1 : Int32) q5 r21 er21) mw_Mo_e ml_Mo_338 0 rfl ⟨Nat.le_of_ble_eq_true rfl, Nat.le_of_ble_eq_true rfl⟩ ⟨Nat.le_refl 0, Nat.le_refl 0⟩ rfl hl.1 rfl (Nat.le_of_ble_eq_true rfl) d_Mo_more_111 (fun H locs hw => ?_)
      refine lv_lconst (v := (1 : Int64)) hx hb d_Mo_more_114 (by decide) ?_
      refine lv_iconst (v := (0 : Int32)) hx hb d_Mo_more_115 (by decide) ?_
      refine lv_aload_n hx hb d_Mo_more_116 rfl (lv_at hl 1 rfl) ?_
      refine gfM_0_reg C0 hw fl_Mo_139 d_Mo_more_117 ?_
      refine lv_iconst (v := (1 : Int32)) hx hb d_Mo_more_120 (by decide) ?_
      refine lv_icmp_ne (tgt := 128) hx hb d_Mo_more_121 (by decide) (fun c22 => ?_) (fun c22 => ?_)
      · have h := ok_f h c22
        refine lv_iconst (v := (0 : Int32)) hx hb d_Mo_more_128 (by decide) ?_
        exact w_Mo_more_129 o C0 r21.2 x1 n20 r21.1 (1 : Int64) (0 : Int32) (0 : Int32) h H locs ls hw (lv_sub hl [1, 2, 0] rfl)
      · have h := ok_t h c22
        refine lv_iconst (v := (1 : Int32)) hx hb d_Mo_more_124 (by decide) ?_
        refine lv_goto (tgt := 129) hx hb d_Mo_more_125 (by decide) ?_
        exact w_Mo_more_129 o C0 r21.2 x1 n20 r21.1 (1 : Int64) (0 : Int32) (1 : Int32) h H locs ls hw (lv_sub hl [1, 2, 0] rfl)
  · have h := ok_f h c6
    have ho := Option.some.inj h
    subst ho
    exact z_rtv C0 hw d_Mo_more_91
set_option maxHeartbeats 4000000 in
set_option maxRecDepth 100000 in
theorem w_Mo_more_54 {p : Program} {l : Launch} {e : Env} {s : State} {m : MethodId} {args : Array Value} {below : List Frame} {meth : Method} {c : Code} {D : va_G} {A : Nat → Prop} {ad : Nat → Nat} {ca : Nat → ClassId} (o : z_Sg) (C0 : z_cx z_RMo b_Mo_more 7 none D (z_Mt ca) A p s m args meth c) (q : z_Sg) (x1 : Int32) (t0 : Int32) (h : k_Mo_more_54 x1 t0 q = some o) : ∀ (H : Heap) (locs : List Loc) (ls : Array Slot), z_wd D (z_M ad ca q) A s H locs → lv_has ls 7 [(0, .ref (ad 0)), (1, .int x1)] → W p l e (z_rm 7 173) s m args below meth c H locs 0 0 (z_qv below D (z_Mt ca) (z_M ad ca o) A s args) (F0 m 54 ls [.int t0]) := by
  obtain ⟨hx, hb, hr, hlk, hml, hown, hts, hK, hA⟩ := id C0
  intro H locs ls hw hl
  refine lv_istore_n (lv' := [(2, .int t0), (0, .ref (ad 0)), (1, .int x1)]) hx hb d_Mo_more_54 rfl hl (by decide) rfl (fun ls hl => ?_)
  refine lv_iload_n hx hb d_Mo_more_55 rfl (lv_at hl 0 rfl) ?_
  refine lv_if_ne (tgt := 65) hx hb d_Mo_more_56 (by decide) (fun c3 => ?_) (fun c3 => ?_)
  · have h := ok_f h c3
    exact w_Mo_more_65 o C0 q x1 h H locs ls hw (lv_sub hl [1, 2] rfl)
  · have h := ok_t h c3
    refine lv_aload_n hx hb d_Mo_more_59 rfl (lv_at hl 1 rfl) ?_
    refine lv_bipush (v := (6 : Int32)) hx hb d_Mo_more_60 (by decide) ?_
    obtain ⟨r27, er27, h⟩ := ok_b h
    refine z_vv (rest := []) C0 hw (c_Mo_refuse (6 : Int32) q r27 er27) mw_Mo_refuse ml_Mo_81 0 rfl ⟨Nat.le_of_ble_eq_true rfl, Nat.le_of_ble_eq_true rfl⟩ ⟨Nat.le_refl 0, Nat.le_refl 0⟩ rfl hl.1 rfl (Nat.le_of_ble_eq_true rfl) d_Mo_more_62 (fun H locs hw => ?_)
    exact w_Mo_more_65 o C0 r27 x1 h H locs ls hw (lv_sub hl [1, 2] rfl)
set_option maxHeartbeats 4000000 in
set_option maxRecDepth 100000 in
theorem w_Mo_more_49 {p : Program} {l : Launch} {e : Env} {s : State} {m : MethodId} {args : Array Value} {below : List Frame} {meth : Method} {c : Code} {D : va_G} {A : Nat → Prop} {ad : Nat → Nat} {ca : Nat → ClassId} (o : z_Sg) (C0 : z_cx z_RMo b_Mo_more 7 none D (z_Mt ca) A p s m args meth c) (q : z_Sg) (x1 : Int32) (h : k_Mo_more_49 x1 q = some o) : ∀ (H : Heap) (locs : List Loc) (ls : Array Slot), z_wd D (z_M ad ca q) A s H locs → lv_has ls 7 [(0, .ref (ad 0)), (1, .int x1)] → W p l e (z_rm 7 173) s m args below meth c H locs 0 0 (z_qv below D (z_Mt ca) (z_M ad ca o) A s args) (F0 m 49 ls []) := by
  obtain ⟨hx, hb, hr, hlk, hml, hown, hts, hK, hA⟩ := id C0
  intro H locs ls hw hl
  refine lv_iconst (v := (1 : Int32)) hx hb d_Mo_more_49 (by decide) ?_
  refine lv_goto (tgt := 54) hx hb d_Mo_more_50 (by decide) ?_
  exact w_Mo_more_54 o C0 q x1 (1 : Int32) h H locs ls hw (lv_sub hl [0, 1] rfl)
set_option maxHeartbeats 4000000 in
set_option maxRecDepth 100000 in
theorem w_Mo_more_53 {p : Program} {l : Launch} {e : Env} {s : State} {m : MethodId} {args : Array Value} {below : List Frame} {meth : Method} {c : Code} {D : va_G} {A : Nat → Prop} {ad : Nat → Nat} {ca : Nat → ClassId} (o : z_Sg) (C0 : z_cx z_RMo b_Mo_more 7 none D (z_Mt ca) A p s m args meth c) (q : z_Sg) (x1 : Int32) (h : k_Mo_more_53 x1 q = some o) : ∀ (H : Heap) (locs : List Loc) (ls : Array Slot), z_wd D (z_M ad ca q) A s H locs → lv_has ls 7 [(0, .ref (ad 0)), (1, .int x1)] → W p l e (z_rm 7 173) s m args below meth c H locs 0 0 (z_qv below D (z_Mt ca) (z_M ad ca o) A s args) (F0 m 53 ls []) := by
  obtain ⟨hx, hb, hr, hlk, hml, hown, hts, hK, hA⟩ := id C0
  intro H locs ls hw hl
  refine lv_iconst (v := (0 : Int32)) hx hb d_Mo_more_53 (by decide) ?_
  exact w_Mo_more_54 o C0 q x1 (0 : Int32) h H locs ls hw (lv_sub hl [0, 1] rfl)
set_option maxHeartbeats 4000000 in
set_option maxRecDepth 100000 in
theorem w_Mo_more_42 {p : Program} {l : Launch} {e : Env} {s : State} {m : MethodId} {args : Array Value} {below : List Frame} {meth : Method} {c : Code} {D : va_G} {A : Nat → Prop} {ad : Nat → Nat} {ca : Nat → ClassId} (o : z_Sg) (C0 : z_cx z_RMo b_Mo_more 7 none D (z_Mt ca) A p s m args meth c) (q : z_Sg) (x1 : Int32) (h : k_Mo_more_42 x1 q = some o) : ∀ (H : Heap) (locs : List Loc) (ls : Array Slot), z_wd D (z_M ad ca q) A s H locs → lv_has ls 7 [(0, .ref (ad 0)), (1, .int x1)] → W p l e (z_rm 7 173) s m args below meth c H locs 0 0 (z_qv below D (z_Mt ca) (z_M ad ca o) A s args) (F0 m 42 ls []) := by
  obtain ⟨hx, hb, hr, hlk, hml, hown, hts, hK, hA⟩ := id C0
  intro H locs ls hw hl
  refine lv_aload_n hx hb d_Mo_more_42 rfl (lv_at hl 0 rfl) ?_
  refine gfM_0_small C0 hw fl_Mo_127 d_Mo_more_43 ?_
  refine lv_if_ne (tgt := 53) hx hb d_Mo_more_46 (by decide) (fun c31 => ?_) (fun c31 => ?_)
  · have h := ok_f h c31
    exact w_Mo_more_53 o C0 q x1 h H locs ls hw (lv_sub hl [0, 1] rfl)
  · have h := ok_t h c31
    exact w_Mo_more_49 o C0 q x1 h H locs ls hw (lv_sub hl [0, 1] rfl)
set_option maxHeartbeats 4000000 in
set_option maxRecDepth 100000 in
theorem c_Mo_more {l : Launch} {D : va_G} {ad : Nat → Nat} {ca : Nat → ClassId} (x1 : Int32) (q : z_Sg) (o : z_Sg) (h : f_Mo_more x1 q = some o) : z_cv l y_Mo_more b_Mo_more 7 none 7 173 D (z_Mt ca) (z_M ad ca q) (z_M ad ca o) [.ref (ad 0), .int x1] := by
  refine z_cv_of (own := z_RMo) (by decide) rfl ?_
  intro p e s m below meth c A C0 hw
  obtain ⟨hx, hb, hr, hlk, hml, hown, hts, hK, hA⟩ := id C0
  generalize hH : s.heap = H at hw ⊢
  generalize hlo : ([] : List Loc) = locs at hw ⊢
  refine z_entry (lv := [(0, .ref (ad 0)), (1, .int x1)]) (Nat.le_of_ble_eq_true rfl) rfl (fun ls hl => ?_)
  unfold f_Mo_more at h
  refine lv_aload_n hx hb d_Mo_more_0 rfl (lv_at hl 0 rfl) ?_
  obtain ⟨r1, er1, h⟩ := ok_b h
  refine z_vv (rest := []) C0 hw (c_Mo_takeMod q r1 er1) mw_Mo_takeMod ml_Mo_167 0 rfl ⟨Nat.le_of_ble_eq_true rfl, Nat.le_of_ble_eq_true rfl⟩ ⟨Nat.le_refl 0, Nat.le_refl 0⟩ rfl hl.1 rfl (Nat.le_of_ble_eq_true rfl) d_Mo_more_1 (fun H locs hw => ?_)
  refine lv_aload_n hx hb d_Mo_more_4 rfl (lv_at hl 0 rfl) ?_
  refine gfM_0_reg C0 hw fl_Mo_139 d_Mo_more_5 ?_
  refine lv_iconst (v := (2 : Int32)) hx hb d_Mo_more_8 (by decide) ?_
  refine lv_icmp_lt (tgt := 49) hx hb d_Mo_more_9 (by decide) (fun c2 => ?_) (fun c2 => ?_)
  · have h := ok_t h c2
    exact w_Mo_more_49 o C0 r1 x1 h H locs ls hw (lv_sub hl [0, 1] rfl)
  · have h := ok_f h c2
    refine lv_iload_n hx hb d_Mo_more_12 rfl (lv_at hl 1 rfl) ?_
    refine lv_iconst (v := (1 : Int32)) hx hb d_Mo_more_13 (by decide) ?_
    refine lv_icmp_le (tgt := 53) hx hb d_Mo_more_14 (by decide) (fun c28 => ?_) (fun c28 => ?_)
    · have h := ok_t h c28
      exact w_Mo_more_53 o C0 r1 x1 h H locs ls hw (lv_sub hl [0, 1] rfl)
    · have h := ok_f h c28
      refine lv_aload_n hx hb d_Mo_more_17 rfl (lv_at hl 0 rfl) ?_
      refine gfM_0_reg C0 hw fl_Mo_139 d_Mo_more_18 ?_
      refine lv_bipush (v := (6 : Int32)) hx hb d_Mo_more_21 (by decide) ?_
      refine lv_icmp_eq (tgt := 49) hx hb d_Mo_more_23 (by decide) (fun c29 => ?_) (fun c29 => ?_)
      · have h := ok_t h c29
        exact w_Mo_more_49 o C0 r1 x1 h H locs ls hw (lv_sub hl [0, 1] rfl)
      · have h := ok_f h c29
        refine lv_aload_n hx hb d_Mo_more_26 rfl (lv_at hl 0 rfl) ?_
        refine gfM_0_reg C0 hw fl_Mo_139 d_Mo_more_27 ?_
        refine lv_iconst (v := (2 : Int32)) hx hb d_Mo_more_30 (by decide) ?_
        refine lv_icmp_eq (tgt := 42) hx hb d_Mo_more_31 (by decide) (fun c30 => ?_) (fun c30 => ?_)
        · have h := ok_t h c30
          exact w_Mo_more_42 o C0 r1 x1 h H locs ls hw (lv_sub hl [0, 1] rfl)
        · have h := ok_f h c30
          refine lv_aload_n hx hb d_Mo_more_34 rfl (lv_at hl 0 rfl) ?_
          refine gfM_0_reg C0 hw fl_Mo_139 d_Mo_more_35 ?_
          refine lv_iconst (v := (4 : Int32)) hx hb d_Mo_more_38 (by decide) ?_
          refine lv_icmp_ne (tgt := 53) hx hb d_Mo_more_39 (by decide) (fun c32 => ?_) (fun c32 => ?_)
          · have h := ok_f h c32
            exact w_Mo_more_53 o C0 r1 x1 h H locs ls hw (lv_sub hl [0, 1] rfl)
          · have h := ok_t h c32
            exact w_Mo_more_42 o C0 r1 x1 h H locs ls hw (lv_sub hl [0, 1] rfl)
def k_Mo_pushNumber_25 (t2 : Int32) (q : z_Sg) : Option z_Sg :=
  (f_Mo_number t2 q).bind (fun r4 => (f_Mo_stackSize r4.2).bind (fun r5 => (f_Mo_push r4.1 r5 r4.2).bind (fun r6 => some r6)))
def f_Mo_pushNumber (x1 : Int32) (q : z_Sg) : Option z_Sg :=
  if x1 = (106 : Int32) then (k_Mo_pushNumber_25 (1 : Int32) q) else ((f_Mo_stackSize q).bind (fun r2 => if r2 = (2 : Int32) then (k_Mo_pushNumber_25 (2 : Int32) q) else (k_Mo_pushNumber_25 (4 : Int32) q)))
set_option maxHeartbeats 4000000 in
set_option maxRecDepth 100000 in
theorem w_Mo_pushNumber_25 {p : Program} {l : Launch} {e : Env} {s : State} {m : MethodId} {args : Array Value} {below : List Frame} {meth : Method} {c : Code} {D : va_G} {A : Nat → Prop} {ad : Nat → Nat} {ca : Nat → ClassId} (o : z_Sg) (C0 : z_cx z_RMo b_Mo_pushNumber 2 none D (z_Mt ca) A p s m args meth c) (q : z_Sg) (t2 : Int32) (h : k_Mo_pushNumber_25 t2 q = some o) : ∀ (H : Heap) (locs : List Loc) (ls : Array Slot), z_wd D (z_M ad ca q) A s H locs → lv_has ls 2 [(0, .ref (ad 0))] → W p l e (z_rm 7 174) s m args below meth c H locs 0 0 (z_qv below D (z_Mt ca) (z_M ad ca o) A s args) (F0 m 25 ls [.int t2, .ref (ad 0), .ref (ad 0)]) := by
  obtain ⟨hx, hb, hr, hlk, hml, hown, hts, hK, hA⟩ := id C0
  intro H locs ls hw hl
  obtain ⟨r4, er4, h⟩ := ok_b h
  refine z_vl (rest := [.ref (ad 0)]) C0 hw (c_Mo_number t2 q r4 er4) mw_Mo_number ml_Mo_373 0 rfl ⟨Nat.le_of_ble_eq_true rfl, Nat.le_of_ble_eq_true rfl⟩ ⟨Nat.le_refl 0, Nat.le_refl 0⟩ rfl hl.1 rfl (Nat.le_of_ble_eq_true rfl) d_Mo_pushNumber_25 (fun H locs hw => ?_)
  refine lv_aload_n hx hb d_Mo_pushNumber_28 rfl (lv_at hl 0 rfl) ?_
  obtain ⟨r5, er5, h⟩ := ok_b h
  refine z_vi (rest := [.long r4.1, .ref (ad 0)]) C0 hw (c_Mo_stackSize r4.2 r5 er5) mw_Mo_stackSize ml_Mo_307 0 rfl ⟨Nat.le_of_ble_eq_true rfl, Nat.le_of_ble_eq_true rfl⟩ ⟨Nat.le_refl 0, Nat.le_refl 0⟩ rfl hl.1 rfl (Nat.le_of_ble_eq_true rfl) d_Mo_pushNumber_29 (fun H locs hw => ?_)
  obtain ⟨r6, er6, h⟩ := ok_b h
  refine z_vv (rest := []) C0 hw (c_Mo_push r4.1 r5 r4.2 r6 er6) mw_Mo_push ml_Mo_310 0 rfl ⟨Nat.le_of_ble_eq_true rfl, Nat.le_of_ble_eq_true rfl⟩ ⟨Nat.le_refl 0, Nat.le_refl 0⟩ rfl hl.1 rfl (Nat.le_of_ble_eq_true rfl) d_Mo_pushNumber_32 (fun H locs hw => ?_)
  have ho := Option.some.inj h
  subst ho
  exact z_rtv C0 hw d_Mo_pushNumber_35
set_option maxHeartbeats 4000000 in
set_option maxRecDepth 100000 in
theorem c_Mo_pushNumber {l : Launch} {D : va_G} {ad : Nat → Nat} {ca : Nat → ClassId} (x1 : Int32) (q : z_Sg) (o : z_Sg) (h : f_Mo_pushNumber x1 q = some o) : z_cv l y_Mo_pushNumber b_Mo_pushNumber 2 none 7 174 D (z_Mt ca) (z_M ad ca q) (z_M ad ca o) [.ref (ad 0), .int x1] := by
  refine z_cv_of (own := z_RMo) (by decide) rfl ?_
  intro p e s m below meth c A C0 hw
  obtain ⟨hx, hb, hr, hlk, hml, hown, hts, hK, hA⟩ := id C0
  generalize hH : s.heap = H at hw ⊢
  generalize hlo : ([] : List Loc) = locs at hw ⊢
  refine z_entry (lv := [(0, .ref (ad 0)), (1, .int x1)]) (Nat.le_of_ble_eq_true rfl) rfl (fun ls hl => ?_)
  unfold f_Mo_pushNumber at h
  refine lv_aload_n hx hb d_Mo_pushNumber_0 rfl (lv_at hl 0 rfl) ?_
  refine lv_aload_n hx hb d_Mo_pushNumber_1 rfl (lv_at hl 0 rfl) ?_
  refine lv_iload_n hx hb d_Mo_pushNumber_2 rfl (lv_at hl 1 rfl) ?_
  refine lv_bipush (v := (106 : Int32)) hx hb d_Mo_pushNumber_3 (by decide) ?_
  refine lv_icmp_ne (tgt := 12) hx hb d_Mo_pushNumber_5 (by decide) (fun c1 => ?_) (fun c1 => ?_)
  · have h := ok_f h c1
    refine lv_aload_n hx hb d_Mo_pushNumber_12 rfl (lv_at hl 0 rfl) ?_
    obtain ⟨r2, er2, h⟩ := ok_b h
    refine z_vi (rest := [.ref (ad 0), .ref (ad 0)]) C0 hw (c_Mo_stackSize q r2 er2) mw_Mo_stackSize ml_Mo_307 0 rfl ⟨Nat.le_of_ble_eq_true rfl, Nat.le_of_ble_eq_true rfl⟩ ⟨Nat.le_refl 0, Nat.le_refl 0⟩ rfl hl.1 rfl (Nat.le_of_ble_eq_true rfl) d_Mo_pushNumber_13 (fun H locs hw => ?_)
    refine lv_iconst (v := (2 : Int32)) hx hb d_Mo_pushNumber_16 (by decide) ?_
    refine lv_icmp_ne (tgt := 24) hx hb d_Mo_pushNumber_17 (by decide) (fun c3 => ?_) (fun c3 => ?_)
    · have h := ok_f h c3
      refine lv_iconst (v := (4 : Int32)) hx hb d_Mo_pushNumber_24 (by decide) ?_
      exact w_Mo_pushNumber_25 o C0 q (4 : Int32) h H locs ls hw (lv_sub hl [0] rfl)
    · have h := ok_t h c3
      refine lv_iconst (v := (2 : Int32)) hx hb d_Mo_pushNumber_20 (by decide) ?_
      refine lv_goto (tgt := 25) hx hb d_Mo_pushNumber_21 (by decide) ?_
      exact w_Mo_pushNumber_25 o C0 q (2 : Int32) h H locs ls hw (lv_sub hl [0] rfl)
  · have h := ok_t h c1
    refine lv_iconst (v := (1 : Int32)) hx hb d_Mo_pushNumber_8 (by decide) ?_
    refine lv_goto (tgt := 25) hx hb d_Mo_pushNumber_9 (by decide) ?_
    exact w_Mo_pushNumber_25 o C0 q (1 : Int32) h H locs ls hw (lv_sub hl [0] rfl)
def f_Mo_setG (x1 : Int32) (x2 : Int64) (q : z_Sg) : Option z_Sg :=
  (f_Mo_plus (4 : Int32) q).bind (fun r1 => (f_Mo_put8 ((z_gI q 8) + r1) x1 x2 q).bind (fun r2 => some r2))
set_option maxHeartbeats 4000000 in
set_option maxRecDepth 100000 in
theorem c_Mo_setG {l : Launch} {D : va_G} {ad : Nat → Nat} {ca : Nat → ClassId} (x1 : Int32) (x2 : Int64) (q : z_Sg) (o : z_Sg) (h : f_Mo_setG x1 x2 q = some o) : z_cv l y_Mo_setG b_Mo_setG 4 none 2 49 D (z_Mt ca) (z_M ad ca q) (z_M ad ca o) [.ref (ad 0), .int x1, .long x2] := by
  refine z_cv_of (own := z_RMo) (by decide) rfl ?_
  intro p e s m below meth c A C0 hw
  obtain ⟨hx, hb, hr, hlk, hml, hown, hts, hK, hA⟩ := id C0
  generalize hH : s.heap = H at hw ⊢
  generalize hlo : ([] : List Loc) = locs at hw ⊢
  refine z_entry (lv := [(0, .ref (ad 0)), (1, .int x1), (2, .long x2)]) (Nat.le_of_ble_eq_true rfl) rfl (fun ls hl => ?_)
  unfold f_Mo_setG at h
  refine lv_aload_n hx hb d_Mo_setG_0 rfl (lv_at hl 0 rfl) ?_
  refine lv_aload_n hx hb d_Mo_setG_1 rfl (lv_at hl 0 rfl) ?_
  refine gfM_0_reg C0 hw fl_Mo_139 d_Mo_setG_2 ?_
  refine lv_aload_n hx hb d_Mo_setG_5 rfl (lv_at hl 0 rfl) ?_
  refine lv_iconst (v := (4 : Int32)) hx hb d_Mo_setG_6 (by decide) ?_
  obtain ⟨r1, er1, h⟩ := ok_b h
  refine z_vi (rest := [.int (z_gI q 8), .ref (ad 0)]) C0 hw (c_Mo_plus (4 : Int32) q r1 er1) mw_Mo_plus ml_Mo_157 0 rfl ⟨Nat.le_of_ble_eq_true rfl, Nat.le_of_ble_eq_true rfl⟩ ⟨Nat.le_refl 0, Nat.le_refl 0⟩ rfl hl.1 rfl (Nat.le_of_ble_eq_true rfl) d_Mo_setG_7 (fun H locs hw => ?_)
  refine lv_iadd hx hb d_Mo_setG_10 ?_
  refine lv_iload_n hx hb d_Mo_setG_11 rfl (lv_at hl 1 rfl) ?_
  refine lv_lload_n hx hb d_Mo_setG_12 rfl (lv_at hl 2 rfl) ?_
  obtain ⟨r2, er2, h⟩ := ok_b h
  refine z_vv (rest := []) C0 hw (c_Mo_put8 ((z_gI q 8) + r1) x1 x2 q r2 er2) mw_Mo_put8 ml_Mo_189 0 rfl ⟨Nat.le_of_ble_eq_true rfl, Nat.le_of_ble_eq_true rfl⟩ ⟨Nat.le_refl 0, Nat.le_refl 0⟩ rfl hl.1 rfl (Nat.le_of_ble_eq_true rfl) d_Mo_setG_13 (fun H locs hw => ?_)
  have ho := Option.some.inj h
  subst ho
  exact z_rtv C0 hw d_Mo_setG_16
def f_Mo_g (x1 : Int32) (q : z_Sg) : Option Int64 :=
  (f_Mo_plus (4 : Int32) q).bind (fun r1 => (f_Mo_get8 ((z_gI q 8) + r1) x1 q).bind (fun r2 => some r2))
set_option maxHeartbeats 4000000 in
set_option maxRecDepth 100000 in
theorem c_Mo_g {l : Launch} {D : va_G} {ad : Nat → Nat} {ca : Nat → ClassId} (x1 : Int32) (q : z_Sg) (o : Int64) (h : f_Mo_g x1 q = some o) : z_cl l y_Mo_g b_Mo_g 2 (some .long) 2 47 D (z_Mt ca) (z_M ad ca q) (z_M ad ca q) [.ref (ad 0), .int x1] o := by
  refine z_cl_of (own := z_RMo) (by decide) rfl ?_
  intro p e s m below meth c A C0 hw
  obtain ⟨hx, hb, hr, hlk, hml, hown, hts, hK, hA⟩ := id C0
  generalize hH : s.heap = H at hw ⊢
  generalize hlo : ([] : List Loc) = locs at hw ⊢
  refine z_entry (lv := [(0, .ref (ad 0)), (1, .int x1)]) (Nat.le_of_ble_eq_true rfl) rfl (fun ls hl => ?_)
  unfold f_Mo_g at h
  refine lv_aload_n hx hb d_Mo_g_0 rfl (lv_at hl 0 rfl) ?_
  refine lv_aload_n hx hb d_Mo_g_1 rfl (lv_at hl 0 rfl) ?_
  refine gfM_0_reg C0 hw fl_Mo_139 d_Mo_g_2 ?_
  refine lv_aload_n hx hb d_Mo_g_5 rfl (lv_at hl 0 rfl) ?_
  refine lv_iconst (v := (4 : Int32)) hx hb d_Mo_g_6 (by decide) ?_
  obtain ⟨r1, er1, h⟩ := ok_b h
  refine z_vi (rest := [.int (z_gI q 8), .ref (ad 0)]) C0 hw (c_Mo_plus (4 : Int32) q r1 er1) mw_Mo_plus ml_Mo_157 0 rfl ⟨Nat.le_of_ble_eq_true rfl, Nat.le_of_ble_eq_true rfl⟩ ⟨Nat.le_refl 0, Nat.le_refl 0⟩ rfl hl.1 rfl (Nat.le_of_ble_eq_true rfl) d_Mo_g_7 (fun H locs hw => ?_)
  refine lv_iadd hx hb d_Mo_g_10 ?_
  refine lv_iload_n hx hb d_Mo_g_11 rfl (lv_at hl 1 rfl) ?_
  obtain ⟨r2, er2, h⟩ := ok_b h
  refine z_vl (rest := []) C0 hw (c_Mo_get8 ((z_gI q 8) + r1) x1 q r2 er2) mw_Mo_get8 ml_Mo_185 0 rfl ⟨Nat.le_of_ble_eq_true rfl, Nat.le_of_ble_eq_true rfl⟩ ⟨Nat.le_refl 0, Nat.le_refl 0⟩ rfl hl.1 rfl (Nat.le_of_ble_eq_true rfl) d_Mo_g_12 (fun H locs hw => ?_)
  have ho := Option.some.inj h
  subst ho
  exact z_rtl C0 hw d_Mo_g_15
def k_Mo_product_119 (x2 : Int32) (x7 : Int64) (t0 : Int32) (q : z_Sg) : Option z_Sg :=
  (f_Mo_setG x2 x7 q).bind (fun r13 => (f_Mo_muchFlags t0 r13).bind (fun r14 => some r14))
def k_Mo_product_114 (x2 : Int32) (x7 : Int64) (q : z_Sg) : Option z_Sg :=
  k_Mo_product_119 x2 x7 (1 : Int32) q
def k_Mo_product_110 (x2 : Int32) (x7 : Int64) (t0 : Int64) (t1 : Int64) (q : z_Sg) : Option z_Sg :=
  if t0 = t1 then (k_Mo_product_119 x2 x7 (0 : Int32) q) else (k_Mo_product_114 x2 x7 q)
def k_Mo_product_46 (x2 : Int32) (t0 : Int64) (q : z_Sg) : Option z_Sg :=
  (f_Mo_e x2 (0 : Int32) q).bind (fun r7 => (f_Mo_extended r7.1 x2 r7.2).bind (fun r8 => (f_Mo_multiplySigned r8 t0 r7.2).bind (fun r9 => (f_Mo_lowest (z_gL r9 8) x2 r9).bind (fun r10 => (f_Mo_extended r10 x2 r9).bind (fun r11 => if (z_gL r9 8) = r11 then (if (0 : Int64) ≤ (z_gL r9 8) then (k_Mo_product_110 x2 r10 (z_gL r9 9) (0 : Int64) r9) else (k_Mo_product_110 x2 r10 (z_gL r9 9) (-1 : Int64) r9)) else (k_Mo_product_114 x2 r10 r9))))))
def k_Mo_product_43 (x2 : Int32) (t1 : Int32) (q : z_Sg) : Option z_Sg :=
  (f_Mo_number t1 q).bind (fun r6 => k_Mo_product_46 x2 r6.1 r6.2)
def f_Mo_product (x1 : Int32) (q : z_Sg) : Option z_Sg :=
  (f_Mo_wide q).bind (fun r1 => (f_Mo_takeOperand q).bind (fun r2 => if x1 = (175 : Int32) then ((f_Mo_g r1 r2).bind (fun r17 => (f_Mo_extended r17 r1 r2).bind (fun r18 => k_Mo_product_46 r1 r18 r2))) else (if x1 = (107 : Int32) then (k_Mo_product_43 r1 (1 : Int32) r2) else ((f_Mo_four r1 r2).bind (fun r5 => k_Mo_product_43 r1 r5 r2)))))
set_option maxHeartbeats 4000000 in
set_option maxRecDepth 100000 in
theorem w_Mo_product_119 {p : Program} {l : Launch} {e : Env} {s : State} {m : MethodId} {args : Array Value} {below : List Frame} {meth : Method} {c : Code} {D : va_G} {A : Nat → Prop} {ad : Nat → Nat} {ca : Nat → ClassId} (o : z_Sg) (C0 : z_cx z_RMo b_Mo_product 10 none D (z_Mt ca) A p s m args meth c) (q : z_Sg) (x2 : Int32) (x7 : Int64) (t0 : Int32) (h : k_Mo_product_119 x2 x7 t0 q = some o) : ∀ (H : Heap) (locs : List Loc) (ls : Array Slot), z_wd D (z_M ad ca q) A s H locs → lv_has ls 10 [(0, .ref (ad 0)), (2, .int x2), (7, .long x7)] → W p l e (z_rm 8 193) s m args below meth c H locs 0 0 (z_qv below D (z_Mt ca) (z_M ad ca o) A s args) (F0 m 119 ls [.int t0]) := by
  obtain ⟨hx, hb, hr, hlk, hml, hown, hts, hK, hA⟩ := id C0
  intro H locs ls hw hl
  refine lv_istore (lv' := [(9, .int t0), (0, .ref (ad 0)), (2, .int x2), (7, .long x7)]) hx hb d_Mo_product_119 hl (by decide) rfl (fun ls hl => ?_)
  refine lv_aload_n hx hb d_Mo_product_121 rfl (lv_at hl 1 rfl) ?_
  refine lv_iload_n hx hb d_Mo_product_122 rfl (lv_at hl 2 rfl) ?_
  refine lv_lload hx hb d_Mo_product_123 (lv_at hl 3 rfl) ?_
  obtain ⟨r13, er13, h⟩ := ok_b h
  refine z_vv (rest := []) C0 hw (c_Mo_setG x2 x7 q r13 er13) mw_Mo_setG ml_Mo_344 0 rfl ⟨Nat.le_of_ble_eq_true rfl, Nat.le_of_ble_eq_true rfl⟩ ⟨Nat.le_refl 0, Nat.le_refl 0⟩ rfl hl.1 rfl (Nat.le_of_ble_eq_true rfl) d_Mo_product_125 (fun H locs hw => ?_)
  refine lv_aload_n hx hb d_Mo_product_128 rfl (lv_at hl 1 rfl) ?_
  refine lv_iload hx hb d_Mo_product_129 (lv_at hl 0 rfl) ?_
  obtain ⟨r14, er14, h⟩ := ok_b h
  refine z_vv (rest := []) C0 hw (c_Mo_muchFlags t0 r13 r14 er14) mw_Mo_muchFlags ml_Mo_396 0 rfl ⟨Nat.le_of_ble_eq_true rfl, Nat.le_of_ble_eq_true rfl⟩ ⟨Nat.le_refl 0, Nat.le_refl 0⟩ rfl hl.1 rfl (Nat.le_of_ble_eq_true rfl) d_Mo_product_131 (fun H locs hw => ?_)
  have ho := Option.some.inj h
  subst ho
  exact z_rtv C0 hw d_Mo_product_134
set_option maxHeartbeats 4000000 in
set_option maxRecDepth 100000 in
theorem w_Mo_product_114 {p : Program} {l : Launch} {e : Env} {s : State} {m : MethodId} {args : Array Value} {below : List Frame} {meth : Method} {c : Code} {D : va_G} {A : Nat → Prop} {ad : Nat → Nat} {ca : Nat → ClassId} (o : z_Sg) (C0 : z_cx z_RMo b_Mo_product 10 none D (z_Mt ca) A p s m args meth c) (q : z_Sg) (x2 : Int32) (x7 : Int64) (h : k_Mo_product_114 x2 x7 q = some o) : ∀ (H : Heap) (locs : List Loc) (ls : Array Slot), z_wd D (z_M ad ca q) A s H locs → lv_has ls 10 [(0, .ref (ad 0)), (2, .int x2), (7, .long x7)] → W p l e (z_rm 8 193) s m args below meth c H locs 0 0 (z_qv below D (z_Mt ca) (z_M ad ca o) A s args) (F0 m 114 ls []) := by
  obtain ⟨hx, hb, hr, hlk, hml, hown, hts, hK, hA⟩ := id C0
  intro H locs ls hw hl
  refine lv_iconst (v := (1 : Int32)) hx hb d_Mo_product_114 (by decide) ?_
  refine lv_goto (tgt := 119) hx hb d_Mo_product_115 (by decide) ?_
  exact w_Mo_product_119 o C0 q x2 x7 (1 : Int32) h H locs ls hw (lv_sub hl [0, 1, 2] rfl)
set_option maxHeartbeats 4000000 in
set_option maxRecDepth 100000 in
theorem w_Mo_product_110 {p : Program} {l : Launch} {e : Env} {s : State} {m : MethodId} {args : Array Value} {below : List Frame} {meth : Method} {c : Code} {D : va_G} {A : Nat → Prop} {ad : Nat → Nat} {ca : Nat → ClassId} (o : z_Sg) (C0 : z_cx z_RMo b_Mo_product 10 none D (z_Mt ca) A p s m args meth c) (q : z_Sg) (x2 : Int32) (x7 : Int64) (t0 : Int64) (t1 : Int64) (h : k_Mo_product_110 x2 x7 t0 t1 q = some o) : ∀ (H : Heap) (locs : List Loc) (ls : Array Slot), z_wd D (z_M ad ca q) A s H locs → lv_has ls 10 [(0, .ref (ad 0)), (2, .int x2), (7, .long x7)] → W p l e (z_rm 8 193) s m args below meth c H locs 0 0 (z_qv below D (z_Mt ca) (z_M ad ca o) A s args) (F0 m 110 ls [.long t1, .long t0]) := by
  obtain ⟨hx, hb, hr, hlk, hml, hown, hts, hK, hA⟩ := id C0
  intro H locs ls hw hl
  refine W.lcmp hx hb d_Mo_product_110 ?_
  refine lv_if_eq (tgt := 118) hx hb d_Mo_product_111 (by decide) (fun c16 => ?_) (fun c16 => ?_)
  · have h := ok_t h ((lg_cmp_eq _ _).mp c16)
    refine lv_iconst (v := (0 : Int32)) hx hb d_Mo_product_118 (by decide) ?_
    exact w_Mo_product_119 o C0 q x2 x7 (0 : Int32) h H locs ls hw (lv_sub hl [0, 1, 2] rfl)
  · have h := ok_f h (fun z => c16 ((lg_cmp_eq _ _).mpr z))
    exact w_Mo_product_114 o C0 q x2 x7 h H locs ls hw (lv_sub hl [0, 1, 2] rfl)
set_option maxHeartbeats 4000000 in
set_option maxRecDepth 100000 in
theorem w_Mo_product_46 {p : Program} {l : Launch} {e : Env} {s : State} {m : MethodId} {args : Array Value} {below : List Frame} {meth : Method} {c : Code} {D : va_G} {A : Nat → Prop} {ad : Nat → Nat} {ca : Nat → ClassId} (o : z_Sg) (C0 : z_cx z_RMo b_Mo_product 10 none D (z_Mt ca) A p s m args meth c) (q : z_Sg) (x2 : Int32) (t0 : Int64) (h : k_Mo_product_46 x2 t0 q = some o) : ∀ (H : Heap) (locs : List Loc) (ls : Array Slot), z_wd D (z_M ad ca q) A s H locs → lv_has ls 10 [(0, .ref (ad 0)), (2, .int x2)] → W p l e (z_rm 8 193) s m args below meth c H locs 0 0 (z_qv below D (z_Mt ca) (z_M ad ca o) A s args) (F0 m 46 ls [.long t0]) := by
  obtain ⟨hx, hb, hr, hlk, hml, hown, hts, hK, hA⟩ := id C0
  intro H locs ls hw hl
  refine lv_lstore_n (lv' := [(3, .long t0), (0, .ref (ad 0)), (2, .int x2)]) hx hb d_Mo_product_46 rfl hl (by decide) rfl (fun ls hl => ?_)
  refine lv_aload_n hx hb d_Mo_product_47 rfl (lv_at hl 1 rfl) ?_
  refine lv_iload_n hx hb d_Mo_product_48 rfl (lv_at hl 2 rfl) ?_
  refine lv_iconst (v := (0 : Int32)) hx hb d_Mo_product_49 (by decide) ?_
  obtain ⟨r7, er7, h⟩ := ok_b h
  refine z_vl (rest := []) C0 hw (c_Mo_e x2 (0 : Int32) q r7 er7) mw_Mo_e ml_Mo_338 0 rfl ⟨Nat.le_of_ble_eq_true rfl, Nat.le_of_ble_eq_true rfl⟩ ⟨Nat.le_refl 0, Nat.le_refl 0⟩ rfl hl.1 rfl (Nat.le_of_ble_eq_true rfl) d_Mo_product_50 (fun H locs hw => ?_)
  refine lv_iload_n hx hb d_Mo_product_53 rfl (lv_at hl 2 rfl) ?_
  obtain ⟨r8, er8, h⟩ := ok_b h
  refine z_sl (rest := []) C0 hw (c_Mo_extended r7.1 x2 r7.2 r8 er8) mw_Mo_extended ml_Mo_118 ⟨Nat.le_of_ble_eq_true rfl, Nat.le_of_ble_eq_true rfl⟩ ⟨Nat.le_refl 0, Nat.le_refl 0⟩ rfl hl.1 rfl (Nat.le_of_ble_eq_true rfl) d_Mo_product_54 (fun H locs hw => ?_)
  refine lv_lstore (lv' := [(5, .long r8), (3, .long t0), (0, .ref (ad 0)), (2, .int x2)]) hx hb d_Mo_product_57 hl (by decide) rfl (fun ls hl => ?_)
  refine lv_aload_n hx hb d_Mo_product_59 rfl (lv_at hl 2 rfl) ?_
  refine lv_lload hx hb d_Mo_product_60 (lv_at hl 0 rfl) ?_
  refine lv_lload_n hx hb d_Mo_product_62 rfl (lv_at hl 1 rfl) ?_
  obtain ⟨r9, er9, h⟩ := ok_b h
  refine z_vv (rest := []) C0 hw (c_Mo_multiplySigned r8 t0 r7.2 r9 er9) mw_Mo_multiplySigned ml_Mo_393 0 rfl ⟨Nat.le_of_ble_eq_true rfl, Nat.le_of_ble_eq_true rfl⟩ ⟨Nat.le_refl 0, Nat.le_refl 0⟩ rfl hl.1 rfl (Nat.le_of_ble_eq_true rfl) d_Mo_product_63 (fun H locs hw => ?_)
  refine lv_aload_n hx hb d_Mo_product_66 rfl (lv_at hl 2 rfl) ?_
  refine gfM_0_low C0 hw fl_Mo_380 d_Mo_product_67 ?_
  refine lv_iload_n hx hb d_Mo_product_70 rfl (lv_at hl 3 rfl) ?_
  obtain ⟨r10, er10, h⟩ := ok_b h
  refine z_sl (rest := []) C0 hw (c_Mo_lowest (z_gL r9 8) x2 r9 r10 er10) mw_Mo_lowest ml_Mo_180 ⟨Nat.le_of_ble_eq_true rfl, Nat.le_of_ble_eq_true rfl⟩ ⟨Nat.le_refl 0, Nat.le_refl 0⟩ rfl hl.1 rfl (Nat.le_of_ble_eq_true rfl) d_Mo_product_71 (fun H locs hw => ?_)
  refine lv_lstore (lv' := [(7, .long r10), (5, .long r8), (3, .long t0), (0, .ref (ad 0)), (2, .int x2)]) hx hb d_Mo_product_74 hl (by decide) rfl (fun ls hl => ?_)
  refine lv_aload_n hx hb d_Mo_product_76 rfl (lv_at hl 3 rfl) ?_
  refine gfM_0_low C0 hw fl_Mo_380 d_Mo_product_77 ?_
  refine lv_lload hx hb d_Mo_product_80 (lv_at hl 0 rfl) ?_
  refine lv_iload_n hx hb d_Mo_product_82 rfl (lv_at hl 4 rfl) ?_
  obtain ⟨r11, er11, h⟩ := ok_b h
  refine z_sl (rest := [.long (z_gL r9 8)]) C0 hw (c_Mo_extended r10 x2 r9 r11 er11) mw_Mo_extended ml_Mo_118 ⟨Nat.le_of_ble_eq_true rfl, Nat.le_of_ble_eq_true rfl⟩ ⟨Nat.le_refl 0, Nat.le_refl 0⟩ rfl hl.1 rfl (Nat.le_of_ble_eq_true rfl) d_Mo_product_83 (fun H locs hw => ?_)
  refine W.lcmp hx hb d_Mo_product_86 ?_
  refine lv_if_ne (tgt := 114) hx hb d_Mo_product_87 (by decide) (fun c12 => ?_) (fun c12 => ?_)
  · have h := ok_f h (fun z => c12 ((lg_cmp_eq _ _).mpr z))
    exact w_Mo_product_114 o C0 r9 x2 r10 h H locs ls hw (lv_sub hl [3, 4, 0] rfl)
  · have h := ok_t h ((lg_cmp_eq _ _).mp c12)
    refine lv_aload_n hx hb d_Mo_product_90 rfl (lv_at hl 3 rfl) ?_
    refine gfM_0_high C0 hw fl_Mo_383 d_Mo_product_91 ?_
    refine lv_aload_n hx hb d_Mo_product_94 rfl (lv_at hl 3 rfl) ?_
    refine gfM_0_low C0 hw fl_Mo_380 d_Mo_product_95 ?_
    refine lv_lconst (v := (0 : Int64)) hx hb d_Mo_product_98 (by decide) ?_
    refine W.lcmp hx hb d_Mo_product_99 ?_
    refine lv_if_ge (tgt := 109) hx hb d_Mo_product_100 (by decide) (fun c15 => ?_) (fun c15 => ?_)
    · have h := ok_t h ((lg_cmp_ge _ _).mp c15)
      refine lv_lconst (v := (0 : Int64)) hx hb d_Mo_product_109 (by decide) ?_
      exact w_Mo_product_110 o C0 r9 x2 r10 (z_gL r9 9) (0 : Int64) h H locs ls hw (lv_sub hl [3, 4, 0] rfl)
    · have h := ok_f h (fun z => c15 ((lg_cmp_ge _ _).mpr z))
      refine lv_ldc2 (own := z_RMo) hx hb hown (hts _ kl_Mo_71) d_Mo_product_103 ?_
      refine lv_goto (tgt := 110) hx hb d_Mo_product_106 (by decide) ?_
      exact w_Mo_product_110 o C0 r9 x2 r10 (z_gL r9 9) (-1 : Int64) h H locs ls hw (lv_sub hl [3, 4, 0] rfl)
set_option maxHeartbeats 4000000 in
set_option maxRecDepth 100000 in
theorem w_Mo_product_43 {p : Program} {l : Launch} {e : Env} {s : State} {m : MethodId} {args : Array Value} {below : List Frame} {meth : Method} {c : Code} {D : va_G} {A : Nat → Prop} {ad : Nat → Nat} {ca : Nat → ClassId} (o : z_Sg) (C0 : z_cx z_RMo b_Mo_product 10 none D (z_Mt ca) A p s m args meth c) (q : z_Sg) (x2 : Int32) (t1 : Int32) (h : k_Mo_product_43 x2 t1 q = some o) : ∀ (H : Heap) (locs : List Loc) (ls : Array Slot), z_wd D (z_M ad ca q) A s H locs → lv_has ls 10 [(0, .ref (ad 0)), (2, .int x2)] → W p l e (z_rm 8 193) s m args below meth c H locs 0 0 (z_qv below D (z_Mt ca) (z_M ad ca o) A s args) (F0 m 43 ls [.int t1, .ref (ad 0)]) := by
  obtain ⟨hx, hb, hr, hlk, hml, hown, hts, hK, hA⟩ := id C0
  intro H locs ls hw hl
  obtain ⟨r6, er6, h⟩ := ok_b h
  refine z_vl (rest := []) C0 hw (c_Mo_number t1 q r6 er6) mw_Mo_number ml_Mo_373 0 rfl ⟨Nat.le_of_ble_eq_true rfl, Nat.le_of_ble_eq_true rfl⟩ ⟨Nat.le_refl 0, Nat.le_refl 0⟩ rfl hl.1 rfl (Nat.le_of_ble_eq_true rfl) d_Mo_product_43 (fun H locs hw => ?_)
  exact w_Mo_product_46 o C0 r6.2 x2 r6.1 h H locs ls hw (lv_sub hl [0, 1] rfl)
set_option maxHeartbeats 4000000 in
set_option maxRecDepth 100000 in
theorem c_Mo_product {l : Launch} {D : va_G} {ad : Nat → Nat} {ca : Nat → ClassId} (x1 : Int32) (q : z_Sg) (o : z_Sg) (h : f_Mo_product x1 q = some o) : z_cv l y_Mo_product b_Mo_product 10 none 8 193 D (z_Mt ca) (z_M ad ca q) (z_M ad ca o) [.ref (ad 0), .int x1] := by
  refine z_cv_of (own := z_RMo) (by decide) rfl ?_
  intro p e s m below meth c A C0 hw
  obtain ⟨hx, hb, hr, hlk, hml, hown, hts, hK, hA⟩ := id C0
  generalize hH : s.heap = H at hw ⊢
  generalize hlo : ([] : List Loc) = locs at hw ⊢
  refine z_entry (lv := [(0, .ref (ad 0)), (1, .int x1)]) (Nat.le_of_ble_eq_true rfl) rfl (fun ls hl => ?_)
  unfold f_Mo_product at h
  refine lv_aload_n hx hb d_Mo_product_0 rfl (lv_at hl 0 rfl) ?_
  obtain ⟨r1, er1, h⟩ := ok_b h
  refine z_vi (rest := []) C0 hw (c_Mo_wide q r1 er1) mw_Mo_wide ml_Mo_235 0 rfl ⟨Nat.le_of_ble_eq_true rfl, Nat.le_of_ble_eq_true rfl⟩ ⟨Nat.le_refl 0, Nat.le_refl 0⟩ rfl hl.1 rfl (Nat.le_of_ble_eq_true rfl) d_Mo_product_1 (fun H locs hw => ?_)
  refine lv_istore_n (lv' := [(2, .int r1), (0, .ref (ad 0)), (1, .int x1)]) hx hb d_Mo_product_4 rfl hl (by decide) rfl (fun ls hl => ?_)
  refine lv_aload_n hx hb d_Mo_product_5 rfl (lv_at hl 1 rfl) ?_
  obtain ⟨r2, er2, h⟩ := ok_b h
  refine z_vv (rest := []) C0 hw (c_Mo_takeOperand q r2 er2) mw_Mo_takeOperand ml_Mo_335 0 rfl ⟨Nat.le_of_ble_eq_true rfl, Nat.le_of_ble_eq_true rfl⟩ ⟨Nat.le_refl 0, Nat.le_refl 0⟩ rfl hl.1 rfl (Nat.le_of_ble_eq_true rfl) d_Mo_product_6 (fun H locs hw => ?_)
  refine lv_iload_n hx hb d_Mo_product_9 rfl (lv_at hl 2 rfl) ?_
  refine lv_sipush (v := (175 : Int32)) hx hb d_Mo_product_10 (by decide) ?_
  refine lv_icmp_ne (tgt := 28) hx hb d_Mo_product_13 (by decide) (fun c3 => ?_) (fun c3 => ?_)
  · have h := ok_f h c3
    refine lv_aload_n hx hb d_Mo_product_28 rfl (lv_at hl 1 rfl) ?_
    refine lv_iload_n hx hb d_Mo_product_29 rfl (lv_at hl 2 rfl) ?_
    refine lv_bipush (v := (107 : Int32)) hx hb d_Mo_product_30 (by decide) ?_
    refine lv_icmp_ne (tgt := 39) hx hb d_Mo_product_32 (by decide) (fun c4 => ?_) (fun c4 => ?_)
    · have h := ok_f h c4
      refine lv_iload_n hx hb d_Mo_product_39 rfl (lv_at hl 0 rfl) ?_
      obtain ⟨r5, er5, h⟩ := ok_b h
      refine z_si (rest := [.ref (ad 0)]) C0 hw (c_Mo_four r1 r2 r5 er5) mw_Mo_four ml_Mo_370 ⟨Nat.le_of_ble_eq_true rfl, Nat.le_of_ble_eq_true rfl⟩ ⟨Nat.le_refl 0, Nat.le_refl 0⟩ rfl hl.1 rfl (Nat.le_of_ble_eq_true rfl) d_Mo_product_40 (fun H locs hw => ?_)
      exact w_Mo_product_43 o C0 r2 r1 r5 h H locs ls hw (lv_sub hl [1, 0] rfl)
    · have h := ok_t h c4
      refine lv_iconst (v := (1 : Int32)) hx hb d_Mo_product_35 (by decide) ?_
      refine lv_goto (tgt := 43) hx hb d_Mo_product_36 (by decide) ?_
      exact w_Mo_product_43 o C0 r2 r1 (1 : Int32) h H locs ls hw (lv_sub hl [1, 0] rfl)
  · have h := ok_t h c3
    refine lv_aload_n hx hb d_Mo_product_16 rfl (lv_at hl 1 rfl) ?_
    refine lv_iload_n hx hb d_Mo_product_17 rfl (lv_at hl 0 rfl) ?_
    obtain ⟨r17, er17, h⟩ := ok_b h
    refine z_vl (rest := []) C0 hw (c_Mo_g r1 r2 r17 er17) mw_Mo_g ml_Mo_341 0 rfl ⟨Nat.le_of_ble_eq_true rfl, Nat.le_of_ble_eq_true rfl⟩ ⟨Nat.le_refl 0, Nat.le_refl 0⟩ rfl hl.1 rfl (Nat.le_of_ble_eq_true rfl) d_Mo_product_18 (fun H locs hw => ?_)
    refine lv_iload_n hx hb d_Mo_product_21 rfl (lv_at hl 0 rfl) ?_
    obtain ⟨r18, er18, h⟩ := ok_b h
    refine z_sl (rest := []) C0 hw (c_Mo_extended r17 r1 r2 r18 er18) mw_Mo_extended ml_Mo_118 ⟨Nat.le_of_ble_eq_true rfl, Nat.le_of_ble_eq_true rfl⟩ ⟨Nat.le_refl 0, Nat.le_refl 0⟩ rfl hl.1 rfl (Nat.le_of_ble_eq_true rfl) d_Mo_product_22 (fun H locs hw => ?_)
    refine lv_goto (tgt := 46) hx hb d_Mo_product_25 (by decide) ?_
    exact w_Mo_product_46 o C0 r2 r1 r18 h H locs ls hw (lv_sub hl [1, 0] rfl)
def f_Mo_testNumber (x1 : Int32) (q : z_Sg) : Option z_Sg :=
  (f_Mo_four x1 q).bind (fun r1 => (f_Mo_number r1 q).bind (fun r2 => (f_Mo_get8 (0 : Int32) x1 r2.2).bind (fun r3 => (f_Mo_lowest r2.1 x1 r2.2).bind (fun r4 => (f_Mo_logic (r3 &&& r4) x1 r2.2).bind (fun r5 => some r5.2)))))
set_option maxHeartbeats 4000000 in
set_option maxRecDepth 100000 in
theorem c_Mo_testNumber {l : Launch} {D : va_G} {ad : Nat → Nat} {ca : Nat → ClassId} (x1 : Int32) (q : z_Sg) (o : z_Sg) (h : f_Mo_testNumber x1 q = some o) : z_cv l y_Mo_testNumber b_Mo_testNumber 4 none 7 174 D (z_Mt ca) (z_M ad ca q) (z_M ad ca o) [.ref (ad 0), .int x1] := by
  refine z_cv_of (own := z_RMo) (by decide) rfl ?_
  intro p e s m below meth c A C0 hw
  obtain ⟨hx, hb, hr, hlk, hml, hown, hts, hK, hA⟩ := id C0
  generalize hH : s.heap = H at hw ⊢
  generalize hlo : ([] : List Loc) = locs at hw ⊢
  refine z_entry (lv := [(0, .ref (ad 0)), (1, .int x1)]) (Nat.le_of_ble_eq_true rfl) rfl (fun ls hl => ?_)
  unfold f_Mo_testNumber at h
  refine lv_aload_n hx hb d_Mo_testNumber_0 rfl (lv_at hl 0 rfl) ?_
  refine lv_iload_n hx hb d_Mo_testNumber_1 rfl (lv_at hl 1 rfl) ?_
  obtain ⟨r1, er1, h⟩ := ok_b h
  refine z_si (rest := [.ref (ad 0)]) C0 hw (c_Mo_four x1 q r1 er1) mw_Mo_four ml_Mo_370 ⟨Nat.le_of_ble_eq_true rfl, Nat.le_of_ble_eq_true rfl⟩ ⟨Nat.le_refl 0, Nat.le_refl 0⟩ rfl hl.1 rfl (Nat.le_of_ble_eq_true rfl) d_Mo_testNumber_2 (fun H locs hw => ?_)
  obtain ⟨r2, er2, h⟩ := ok_b h
  refine z_vl (rest := []) C0 hw (c_Mo_number r1 q r2 er2) mw_Mo_number ml_Mo_373 0 rfl ⟨Nat.le_of_ble_eq_true rfl, Nat.le_of_ble_eq_true rfl⟩ ⟨Nat.le_refl 0, Nat.le_refl 0⟩ rfl hl.1 rfl (Nat.le_of_ble_eq_true rfl) d_Mo_testNumber_5 (fun H locs hw => ?_)
  refine lv_lstore_n (lv' := [(2, .long r2.1), (0, .ref (ad 0)), (1, .int x1)]) hx hb d_Mo_testNumber_8 rfl hl (by decide) rfl (fun ls hl => ?_)
  refine lv_aload_n hx hb d_Mo_testNumber_9 rfl (lv_at hl 1 rfl) ?_
  refine lv_aload_n hx hb d_Mo_testNumber_10 rfl (lv_at hl 1 rfl) ?_
  refine lv_iconst (v := (0 : Int32)) hx hb d_Mo_testNumber_11 (by decide) ?_
  refine lv_iload_n hx hb d_Mo_testNumber_12 rfl (lv_at hl 2 rfl) ?_
  obtain ⟨r3, er3, h⟩ := ok_b h
  refine z_vl (rest := [.ref (ad 0)]) C0 hw (c_Mo_get8 (0 : Int32) x1 r2.2 r3 er3) mw_Mo_get8 ml_Mo_185 0 rfl ⟨Nat.le_of_ble_eq_true rfl, Nat.le_of_ble_eq_true rfl⟩ ⟨Nat.le_refl 0, Nat.le_refl 0⟩ rfl hl.1 rfl (Nat.le_of_ble_eq_true rfl) d_Mo_testNumber_13 (fun H locs hw => ?_)
  refine lv_lload_n hx hb d_Mo_testNumber_16 rfl (lv_at hl 0 rfl) ?_
  refine lv_iload_n hx hb d_Mo_testNumber_17 rfl (lv_at hl 2 rfl) ?_
  obtain ⟨r4, er4, h⟩ := ok_b h
  refine z_sl (rest := [.long r3, .ref (ad 0)]) C0 hw (c_Mo_lowest r2.1 x1 r2.2 r4 er4) mw_Mo_lowest ml_Mo_180 ⟨Nat.le_of_ble_eq_true rfl, Nat.le_of_ble_eq_true rfl⟩ ⟨Nat.le_refl 0, Nat.le_refl 0⟩ rfl hl.1 rfl (Nat.le_of_ble_eq_true rfl) d_Mo_testNumber_18 (fun H locs hw => ?_)
  refine lv_land hx hb d_Mo_testNumber_21 ?_
  refine lv_iload_n hx hb d_Mo_testNumber_22 rfl (lv_at hl 2 rfl) ?_
  obtain ⟨r5, er5, h⟩ := ok_b h
  refine z_vl (rest := []) C0 hw (c_Mo_logic (r3 &&& r4) x1 r2.2 r5 er5) mw_Mo_logic ml_Mo_222 0 rfl ⟨Nat.le_of_ble_eq_true rfl, Nat.le_of_ble_eq_true rfl⟩ ⟨Nat.le_refl 0, Nat.le_refl 0⟩ rfl hl.1 rfl (Nat.le_of_ble_eq_true rfl) d_Mo_testNumber_23 (fun H locs hw => ?_)
  refine lv_pop2_2 hx hb d_Mo_testNumber_26 rfl ?_
  have ho := Option.some.inj h
  subst ho
  exact z_rtv C0 hw d_Mo_testNumber_27
def k_Mo_load_26 (t0 : Int64) (q : z_Sg) : Option (Int64 × z_Sg) :=
  some (t0, q)
def f_Mo_load (x1 : Int64) (x3 : Int32) (x4 : Int32) (q : z_Sg) : Option (Int64 × z_Sg) :=
  (f_Mo_lookUp x1 x3 (0 : Int32) x4 q).bind (fun r1 => if (z_gI r1 4) = (-1 : Int32) then ((f_Mo_held x3 r1).bind (fun r3 => k_Mo_load_26 r3 r1)) else (k_Mo_load_26 (0 : Int64) r1))
set_option maxHeartbeats 4000000 in
set_option maxRecDepth 100000 in
theorem w_Mo_load_26 {p : Program} {l : Launch} {e : Env} {s : State} {m : MethodId} {args : Array Value} {below : List Frame} {meth : Method} {c : Code} {D : va_G} {A : Nat → Prop} {ad : Nat → Nat} {ca : Nat → ClassId} (o : (Int64 × z_Sg)) (C0 : z_cx z_RMo b_Mo_load 5 (some .long) D (z_Mt ca) A p s m args meth c) (q : z_Sg) (t0 : Int64) (h : k_Mo_load_26 t0 q = some o) : ∀ (H : Heap) (locs : List Loc) (ls : Array Slot), z_wd D (z_M ad ca q) A s H locs → lv_has ls 5 [] → W p l e (z_rm 4 107) s m args below meth c H locs 0 0 (z_ql below D (z_Mt ca) (z_M ad ca o.2) A s args o.1) (F0 m 26 ls [.long t0]) := by
  obtain ⟨hx, hb, hr, hlk, hml, hown, hts, hK, hA⟩ := id C0
  intro H locs ls hw hl
  have ho := Option.some.inj h
  subst ho
  exact z_rtl C0 hw d_Mo_load_26
set_option maxHeartbeats 4000000 in
set_option maxRecDepth 100000 in
theorem c_Mo_load {l : Launch} {D : va_G} {ad : Nat → Nat} {ca : Nat → ClassId} (x1 : Int64) (x3 : Int32) (x4 : Int32) (q : z_Sg) (o : (Int64 × z_Sg)) (h : f_Mo_load x1 x3 x4 q = some o) : z_cl l y_Mo_load b_Mo_load 5 (some .long) 4 107 D (z_Mt ca) (z_M ad ca q) (z_M ad ca o.2) [.ref (ad 0), .long x1, .int x3, .int x4] o.1 := by
  refine z_cl_of (own := z_RMo) (by decide) rfl ?_
  intro p e s m below meth c A C0 hw
  obtain ⟨hx, hb, hr, hlk, hml, hown, hts, hK, hA⟩ := id C0
  generalize hH : s.heap = H at hw ⊢
  generalize hlo : ([] : List Loc) = locs at hw ⊢
  refine z_entry (lv := [(0, .ref (ad 0)), (1, .long x1), (3, .int x3), (4, .int x4)]) (Nat.le_of_ble_eq_true rfl) rfl (fun ls hl => ?_)
  unfold f_Mo_load at h
  refine lv_aload_n hx hb d_Mo_load_0 rfl (lv_at hl 0 rfl) ?_
  refine lv_lload_n hx hb d_Mo_load_1 rfl (lv_at hl 1 rfl) ?_
  refine lv_iload_n hx hb d_Mo_load_2 rfl (lv_at hl 2 rfl) ?_
  refine lv_iconst (v := (0 : Int32)) hx hb d_Mo_load_3 (by decide) ?_
  refine lv_iload hx hb d_Mo_load_4 (lv_at hl 3 rfl) ?_
  obtain ⟨r1, er1, h⟩ := ok_b h
  refine z_vv (rest := []) C0 hw (c_Mo_lookUp x1 x3 (0 : Int32) x4 q r1 er1) mw_Mo_lookUp ml_Mo_95 0 rfl ⟨Nat.le_of_ble_eq_true rfl, Nat.le_of_ble_eq_true rfl⟩ ⟨Nat.le_refl 0, Nat.le_refl 0⟩ rfl hl.1 rfl (Nat.le_of_ble_eq_true rfl) d_Mo_load_6 (fun H locs hw => ?_)
  refine lv_aload_n hx hb d_Mo_load_9 rfl (lv_at hl 0 rfl) ?_
  refine gfM_0_refused C0 hw fl_Mo_28 d_Mo_load_10 ?_
  refine lv_iconst (v := (-1 : Int32)) hx hb d_Mo_load_13 (by decide) ?_
  refine lv_icmp_ne (tgt := 25) hx hb d_Mo_load_14 (by decide) (fun c2 => ?_) (fun c2 => ?_)
  · have h := ok_f h c2
    refine lv_lconst (v := (0 : Int64)) hx hb d_Mo_load_25 (by decide) ?_
    exact w_Mo_load_26 o C0 r1 (0 : Int64) h H locs ls hw (lv_sub hl [] rfl)
  · have h := ok_t h c2
    refine lv_aload_n hx hb d_Mo_load_17 rfl (lv_at hl 0 rfl) ?_
    refine lv_iload_n hx hb d_Mo_load_18 rfl (lv_at hl 2 rfl) ?_
    obtain ⟨r3, er3, h⟩ := ok_b h
    refine z_vl (rest := []) C0 hw (c_Mo_held x3 r1 r3 er3) mw_Mo_held ml_Mo_99 0 rfl ⟨Nat.le_of_ble_eq_true rfl, Nat.le_of_ble_eq_true rfl⟩ ⟨Nat.le_refl 0, Nat.le_refl 0⟩ rfl hl.1 rfl (Nat.le_of_ble_eq_true rfl) d_Mo_load_19 (fun H locs hw => ?_)
    refine lv_goto (tgt := 26) hx hb d_Mo_load_22 (by decide) ?_
    exact w_Mo_load_26 o C0 r1 r3 h H locs ls hw (lv_sub hl [] rfl)
def k_Mo_pop_32 (x2 : Int64) (q : z_Sg) : Option (Int64 × z_Sg) :=
  some (x2, q)
def f_Mo_pop (x1 : Int32) (q : z_Sg) : Option (Int64 × z_Sg) :=
  if z_bad (4 : Int32) 16 then none else ((f_Mo_load (z_gM q 0 (4 : Int32).toNatClampNeg) x1 (1 : Int32) q).bind (fun r2 => if (z_gI r2.2 4) = (-1 : Int32) then (if z_bad (4 : Int32) 16 then none else (if z_bad (4 : Int32) 16 then none else (z_nm (z_sM r2.2 0 (4 : Int32).toNatClampNeg ((z_gM r2.2 0 (4 : Int32).toNatClampNeg) + (x1.toInt64))) (fun q6 => k_Mo_pop_32 r2.1 q6)))) else (k_Mo_pop_32 r2.1 r2.2)))
set_option maxHeartbeats 4000000 in
set_option maxRecDepth 100000 in
theorem w_Mo_pop_32 {p : Program} {l : Launch} {e : Env} {s : State} {m : MethodId} {args : Array Value} {below : List Frame} {meth : Method} {c : Code} {D : va_G} {A : Nat → Prop} {ad : Nat → Nat} {ca : Nat → ClassId} (o : (Int64 × z_Sg)) (C0 : z_cx z_RMo b_Mo_pop 4 (some .long) D (z_Mt ca) A p s m args meth c) (q : z_Sg) (x2 : Int64) (h : k_Mo_pop_32 x2 q = some o) : ∀ (H : Heap) (locs : List Loc) (ls : Array Slot), z_wd D (z_M ad ca q) A s H locs → lv_has ls 4 [(2, .long x2)] → W p l e (z_rm 5 131) s m args below meth c H locs 0 0 (z_ql below D (z_Mt ca) (z_M ad ca o.2) A s args o.1) (F0 m 32 ls []) := by
  obtain ⟨hx, hb, hr, hlk, hml, hown, hts, hK, hA⟩ := id C0
  intro H locs ls hw hl
  refine lv_lload_n hx hb d_Mo_pop_32 rfl (lv_at hl 0 rfl) ?_
  have ho := Option.some.inj h
  subst ho
  exact z_rtl C0 hw d_Mo_pop_33
set_option maxHeartbeats 4000000 in
set_option maxRecDepth 100000 in
theorem c_Mo_pop {l : Launch} {D : va_G} {ad : Nat → Nat} {ca : Nat → ClassId} (x1 : Int32) (q : z_Sg) (o : (Int64 × z_Sg)) (h : f_Mo_pop x1 q = some o) : z_cl l y_Mo_pop b_Mo_pop 4 (some .long) 5 131 D (z_Mt ca) (z_M ad ca q) (z_M ad ca o.2) [.ref (ad 0), .int x1] o.1 := by
  refine z_cl_of (own := z_RMo) (by decide) rfl ?_
  intro p e s m below meth c A C0 hw
  obtain ⟨hx, hb, hr, hlk, hml, hown, hts, hK, hA⟩ := id C0
  generalize hH : s.heap = H at hw ⊢
  generalize hlo : ([] : List Loc) = locs at hw ⊢
  refine z_entry (lv := [(0, .ref (ad 0)), (1, .int x1)]) (Nat.le_of_ble_eq_true rfl) rfl (fun ls hl => ?_)
  unfold f_Mo_pop at h
  refine lv_aload_n hx hb d_Mo_pop_0 rfl (lv_at hl 0 rfl) ?_
  refine lv_aload_n hx hb d_Mo_pop_1 rfl (lv_at hl 0 rfl) ?_
  refine gfM_0_r C0 hw fl_Mo_14 d_Mo_pop_2 ?_
  refine lv_iconst (v := (4 : Int32)) hx hb d_Mo_pop_5 (by decide) ?_
  obtain ⟨b1, h⟩ := ok_g h
  refine alM_2 C0 hw b1 d_Mo_pop_6 ?_
  refine lv_iload_n hx hb d_Mo_pop_7 rfl (lv_at hl 1 rfl) ?_
  refine lv_iconst (v := (1 : Int32)) hx hb d_Mo_pop_8 (by decide) ?_
  obtain ⟨r2, er2, h⟩ := ok_b h
  refine z_vl (rest := []) C0 hw (c_Mo_load (z_gM q 0 (4 : Int32).toNatClampNeg) x1 (1 : Int32) q r2 er2) mw_Mo_load ml_Mo_434 0 rfl ⟨Nat.le_of_ble_eq_true rfl, Nat.le_of_ble_eq_true rfl⟩ ⟨Nat.le_refl 0, Nat.le_refl 0⟩ rfl hl.1 rfl (Nat.le_of_ble_eq_true rfl) d_Mo_pop_9 (fun H locs hw => ?_)
  refine lv_lstore_n (lv' := [(2, .long r2.1), (0, .ref (ad 0)), (1, .int x1)]) hx hb d_Mo_pop_12 rfl hl (by decide) rfl (fun ls hl => ?_)
  refine lv_aload_n hx hb d_Mo_pop_13 rfl (lv_at hl 1 rfl) ?_
  refine gfM_0_refused C0 hw fl_Mo_28 d_Mo_pop_14 ?_
  refine lv_iconst (v := (-1 : Int32)) hx hb d_Mo_pop_17 (by decide) ?_
  refine lv_icmp_ne (tgt := 32) hx hb d_Mo_pop_18 (by decide) (fun c3 => ?_) (fun c3 => ?_)
  · have h := ok_f h c3
    exact w_Mo_pop_32 o C0 r2.2 r2.1 h H locs ls hw (lv_sub hl [0] rfl)
  · have h := ok_t h c3
    refine lv_aload_n hx hb d_Mo_pop_21 rfl (lv_at hl 1 rfl) ?_
    refine gfM_0_r C0 hw fl_Mo_14 d_Mo_pop_22 ?_
    refine lv_iconst (v := (4 : Int32)) hx hb d_Mo_pop_25 (by decide) ?_
    refine lv_dup2_11 hx hb d_Mo_pop_26 rfl rfl ?_
    obtain ⟨b4, h⟩ := ok_g h
    refine alM_2 C0 hw b4 d_Mo_pop_27 ?_
    refine lv_iload_n hx hb d_Mo_pop_28 rfl (lv_at hl 2 rfl) ?_
    refine lv_i2l hx hb d_Mo_pop_29 rfl ?_
    refine lv_ladd hx hb d_Mo_pop_30 ?_
    obtain ⟨b5, h⟩ := ok_g h
    refine asM_2 C0 hw b5 d_Mo_pop_31 (fun H locs hw => ?_)
    obtain ⟨q6, eq6, h⟩ := ok_n h
    rw [← eq6] at hw
    exact w_Mo_pop_32 o C0 q6 r2.1 h H locs ls hw (lv_sub hl [0] rfl)
def k_Mo_returns_66 (q : z_Sg) : Option z_Sg :=
  some q
def k_Mo_returns_33 (t0 : Int64) (q : z_Sg) : Option z_Sg :=
  (f_Mo_pop (8 : Int32) q).bind (fun r3 => if z_bad (4 : Int32) 16 then none else (if z_bad (4 : Int32) 16 then none else (z_nm (z_sM r3.2 0 (4 : Int32).toNatClampNeg ((z_gM r3.2 0 (4 : Int32).toNatClampNeg) + t0)) (fun q6 => if (z_gI q6 4) = (-1 : Int32) then ((f_Mo_jump r3.1 q6).bind (fun r8 => k_Mo_returns_66 r8)) else (k_Mo_returns_66 q6)))))
def k_Mo_returns_13 (x1 : Int32) (q : z_Sg) : Option z_Sg :=
  if x1 = (194 : Int32) then ((f_Mo_number (2 : Int32) q).bind (fun r9 => (f_Mo_lowest r9.1 (2 : Int32) r9.2).bind (fun r10 => k_Mo_returns_33 r10 r9.2))) else (k_Mo_returns_33 (0 : Int64) q)
def f_Mo_returns (x1 : Int32) (q : z_Sg) : Option z_Sg :=
  if (z_gI q 16) = 0 then (k_Mo_returns_13 x1 q) else ((f_Mo_refuse (6 : Int32) q).bind (fun r11 => k_Mo_returns_13 x1 r11))
set_option maxHeartbeats 4000000 in
set_option maxRecDepth 100000 in
theorem w_Mo_returns_66 {p : Program} {l : Launch} {e : Env} {s : State} {m : MethodId} {args : Array Value} {below : List Frame} {meth : Method} {c : Code} {D : va_G} {A : Nat → Prop} {ad : Nat → Nat} {ca : Nat → ClassId} (o : z_Sg) (C0 : z_cx z_RMo b_Mo_returns 6 none D (z_Mt ca) A p s m args meth c) (q : z_Sg) (h : k_Mo_returns_66 q = some o) : ∀ (H : Heap) (locs : List Loc) (ls : Array Slot), z_wd D (z_M ad ca q) A s H locs → lv_has ls 6 [] → W p l e (z_rm 7 174) s m args below meth c H locs 0 0 (z_qv below D (z_Mt ca) (z_M ad ca o) A s args) (F0 m 66 ls []) := by
  obtain ⟨hx, hb, hr, hlk, hml, hown, hts, hK, hA⟩ := id C0
  intro H locs ls hw hl
  have ho := Option.some.inj h
  subst ho
  exact z_rtv C0 hw d_Mo_returns_66
set_option maxHeartbeats 4000000 in
set_option maxRecDepth 100000 in
theorem w_Mo_returns_33 {p : Program} {l : Launch} {e : Env} {s : State} {m : MethodId} {args : Array Value} {below : List Frame} {meth : Method} {c : Code} {D : va_G} {A : Nat → Prop} {ad : Nat → Nat} {ca : Nat → ClassId} (o : z_Sg) (C0 : z_cx z_RMo b_Mo_returns 6 none D (z_Mt ca) A p s m args meth c) (q : z_Sg) (t0 : Int64) (h : k_Mo_returns_33 t0 q = some o) : ∀ (H : Heap) (locs : List Loc) (ls : Array Slot), z_wd D (z_M ad ca q) A s H locs → lv_has ls 6 [(0, .ref (ad 0))] → W p l e (z_rm 7 174) s m args below meth c H locs 0 0 (z_qv below D (z_Mt ca) (z_M ad ca o) A s args) (F0 m 33 ls [.long t0]) := by
  obtain ⟨hx, hb, hr, hlk, hml, hown, hts, hK, hA⟩ := id C0
  intro H locs ls hw hl
  refine lv_lstore_n (lv' := [(2, .long t0), (0, .ref (ad 0))]) hx hb d_Mo_returns_33 rfl hl (by decide) rfl (fun ls hl => ?_)
  refine lv_aload_n hx hb d_Mo_returns_34 rfl (lv_at hl 1 rfl) ?_
  refine lv_bipush (v := (8 : Int32)) hx hb d_Mo_returns_35 (by decide) ?_
  obtain ⟨r3, er3, h⟩ := ok_b h
  refine z_vl (rest := []) C0 hw (c_Mo_pop (8 : Int32) q r3 er3) mw_Mo_pop ml_Mo_313 0 rfl ⟨Nat.le_of_ble_eq_true rfl, Nat.le_of_ble_eq_true rfl⟩ ⟨Nat.le_refl 0, Nat.le_refl 0⟩ rfl hl.1 rfl (Nat.le_of_ble_eq_true rfl) d_Mo_returns_37 (fun H locs hw => ?_)
  refine lv_lstore (lv' := [(4, .long r3.1), (2, .long t0), (0, .ref (ad 0))]) hx hb d_Mo_returns_40 hl (by decide) rfl (fun ls hl => ?_)
  refine lv_aload_n hx hb d_Mo_returns_42 rfl (lv_at hl 2 rfl) ?_
  refine gfM_0_r C0 hw fl_Mo_14 d_Mo_returns_43 ?_
  refine lv_iconst (v := (4 : Int32)) hx hb d_Mo_returns_46 (by decide) ?_
  refine lv_dup2_11 hx hb d_Mo_returns_47 rfl rfl ?_
  obtain ⟨b4, h⟩ := ok_g h
  refine alM_2 C0 hw b4 d_Mo_returns_48 ?_
  refine lv_lload_n hx hb d_Mo_returns_49 rfl (lv_at hl 1 rfl) ?_
  refine lv_ladd hx hb d_Mo_returns_50 ?_
  obtain ⟨b5, h⟩ := ok_g h
  refine asM_2 C0 hw b5 d_Mo_returns_51 (fun H locs hw => ?_)
  obtain ⟨q6, eq6, h⟩ := ok_n h
  rw [← eq6] at hw
  refine lv_aload_n hx hb d_Mo_returns_52 rfl (lv_at hl 2 rfl) ?_
  refine gfM_0_refused C0 hw fl_Mo_28 d_Mo_returns_53 ?_
  refine lv_iconst (v := (-1 : Int32)) hx hb d_Mo_returns_56 (by decide) ?_
  refine lv_icmp_ne (tgt := 66) hx hb d_Mo_returns_57 (by decide) (fun c7 => ?_) (fun c7 => ?_)
  · have h := ok_f h c7
    exact w_Mo_returns_66 o C0 q6 h H locs ls hw (lv_sub hl [] rfl)
  · have h := ok_t h c7
    refine lv_aload_n hx hb d_Mo_returns_60 rfl (lv_at hl 2 rfl) ?_
    refine lv_lload hx hb d_Mo_returns_61 (lv_at hl 0 rfl) ?_
    obtain ⟨r8, er8, h⟩ := ok_b h
    refine z_vv (rest := []) C0 hw (c_Mo_jump r3.1 q6 r8 er8) mw_Mo_jump ml_Mo_431 0 rfl ⟨Nat.le_of_ble_eq_true rfl, Nat.le_of_ble_eq_true rfl⟩ ⟨Nat.le_refl 0, Nat.le_refl 0⟩ rfl hl.1 rfl (Nat.le_of_ble_eq_true rfl) d_Mo_returns_63 (fun H locs hw => ?_)
    exact w_Mo_returns_66 o C0 r8 h H locs ls hw (lv_sub hl [] rfl)
set_option maxHeartbeats 4000000 in
set_option maxRecDepth 100000 in
theorem w_Mo_returns_13 {p : Program} {l : Launch} {e : Env} {s : State} {m : MethodId} {args : Array Value} {below : List Frame} {meth : Method} {c : Code} {D : va_G} {A : Nat → Prop} {ad : Nat → Nat} {ca : Nat → ClassId} (o : z_Sg) (C0 : z_cx z_RMo b_Mo_returns 6 none D (z_Mt ca) A p s m args meth c) (q : z_Sg) (x1 : Int32) (h : k_Mo_returns_13 x1 q = some o) : ∀ (H : Heap) (locs : List Loc) (ls : Array Slot), z_wd D (z_M ad ca q) A s H locs → lv_has ls 6 [(0, .ref (ad 0)), (1, .int x1)] → W p l e (z_rm 7 174) s m args below meth c H locs 0 0 (z_qv below D (z_Mt ca) (z_M ad ca o) A s args) (F0 m 13 ls []) := by
  obtain ⟨hx, hb, hr, hlk, hml, hown, hts, hK, hA⟩ := id C0
  intro H locs ls hw hl
  refine lv_iload_n hx hb d_Mo_returns_13 rfl (lv_at hl 1 rfl) ?_
  refine lv_sipush (v := (194 : Int32)) hx hb d_Mo_returns_14 (by decide) ?_
  refine lv_icmp_ne (tgt := 32) hx hb d_Mo_returns_17 (by decide) (fun c2 => ?_) (fun c2 => ?_)
  · have h := ok_f h c2
    refine lv_lconst (v := (0 : Int64)) hx hb d_Mo_returns_32 (by decide) ?_
    exact w_Mo_returns_33 o C0 q (0 : Int64) h H locs ls hw (lv_sub hl [0] rfl)
  · have h := ok_t h c2
    refine lv_aload_n hx hb d_Mo_returns_20 rfl (lv_at hl 0 rfl) ?_
    refine lv_iconst (v := (2 : Int32)) hx hb d_Mo_returns_21 (by decide) ?_
    obtain ⟨r9, er9, h⟩ := ok_b h
    refine z_vl (rest := []) C0 hw (c_Mo_number (2 : Int32) q r9 er9) mw_Mo_number ml_Mo_373 0 rfl ⟨Nat.le_of_ble_eq_true rfl, Nat.le_of_ble_eq_true rfl⟩ ⟨Nat.le_refl 0, Nat.le_refl 0⟩ rfl hl.1 rfl (Nat.le_of_ble_eq_true rfl) d_Mo_returns_22 (fun H locs hw => ?_)
    refine lv_iconst (v := (2 : Int32)) hx hb d_Mo_returns_25 (by decide) ?_
    obtain ⟨r10, er10, h⟩ := ok_b h
    refine z_sl (rest := []) C0 hw (c_Mo_lowest r9.1 (2 : Int32) r9.2 r10 er10) mw_Mo_lowest ml_Mo_180 ⟨Nat.le_of_ble_eq_true rfl, Nat.le_of_ble_eq_true rfl⟩ ⟨Nat.le_refl 0, Nat.le_refl 0⟩ rfl hl.1 rfl (Nat.le_of_ble_eq_true rfl) d_Mo_returns_26 (fun H locs hw => ?_)
    refine lv_goto (tgt := 33) hx hb d_Mo_returns_29 (by decide) ?_
    exact w_Mo_returns_33 o C0 r9.2 r10 h H locs ls hw (lv_sub hl [0] rfl)
set_option maxHeartbeats 4000000 in
set_option maxRecDepth 100000 in
theorem c_Mo_returns {l : Launch} {D : va_G} {ad : Nat → Nat} {ca : Nat → ClassId} (x1 : Int32) (q : z_Sg) (o : z_Sg) (h : f_Mo_returns x1 q = some o) : z_cv l y_Mo_returns b_Mo_returns 6 none 7 174 D (z_Mt ca) (z_M ad ca q) (z_M ad ca o) [.ref (ad 0), .int x1] := by
  refine z_cv_of (own := z_RMo) (by decide) rfl ?_
  intro p e s m below meth c A C0 hw
  obtain ⟨hx, hb, hr, hlk, hml, hown, hts, hK, hA⟩ := id C0
  generalize hH : s.heap = H at hw ⊢
  generalize hlo : ([] : List Loc) = locs at hw ⊢
  refine z_entry (lv := [(0, .ref (ad 0)), (1, .int x1)]) (Nat.le_of_ble_eq_true rfl) rfl (fun ls hl => ?_)
  unfold f_Mo_returns at h
  refine lv_aload_n hx hb d_Mo_returns_0 rfl (lv_at hl 0 rfl) ?_
  refine gfM_0_small C0 hw fl_Mo_127 d_Mo_returns_1 ?_
  refine lv_if_eq (tgt := 13) hx hb d_Mo_returns_4 (by decide) (fun c1 => ?_) (fun c1 => ?_)
  · have h := ok_t h c1
    exact w_Mo_returns_13 o C0 q x1 h H locs ls hw (lv_sub hl [0, 1] rfl)
  · have h := ok_f h c1
    refine lv_aload_n hx hb d_Mo_returns_7 rfl (lv_at hl 0 rfl) ?_
    refine lv_bipush (v := (6 : Int32)) hx hb d_Mo_returns_8 (by decide) ?_
    obtain ⟨r11, er11, h⟩ := ok_b h
    refine z_vv (rest := []) C0 hw (c_Mo_refuse (6 : Int32) q r11 er11) mw_Mo_refuse ml_Mo_81 0 rfl ⟨Nat.le_of_ble_eq_true rfl, Nat.le_of_ble_eq_true rfl⟩ ⟨Nat.le_refl 0, Nat.le_refl 0⟩ rfl hl.1 rfl (Nat.le_of_ble_eq_true rfl) d_Mo_returns_10 (fun H locs hw => ?_)
    exact w_Mo_returns_13 o C0 r11 x1 h H locs ls hw (lv_sub hl [0, 1] rfl)
def k_Mo_moveNumber_17 (x1 : Int32) (q : z_Sg) : Option z_Sg :=
  (f_Mo_takePlace q).bind (fun r3 => (f_Mo_four x1 r3).bind (fun r4 => (f_Mo_number r4 r3).bind (fun r5 => (f_Mo_e x1 (1 : Int32) r5.2).bind (fun r6 => (f_Mo_setE x1 r5.1 r6.2).bind (fun r7 => some r7)))))
def f_Mo_moveNumber (x1 : Int32) (q : z_Sg) : Option z_Sg :=
  (f_Mo_takeMod q).bind (fun r1 => if (z_gI r1 8) = 0 then (k_Mo_moveNumber_17 x1 r1) else ((f_Mo_refuse (6 : Int32) r1).bind (fun r8 => k_Mo_moveNumber_17 x1 r8)))
set_option maxHeartbeats 4000000 in
set_option maxRecDepth 100000 in
theorem w_Mo_moveNumber_17 {p : Program} {l : Launch} {e : Env} {s : State} {m : MethodId} {args : Array Value} {below : List Frame} {meth : Method} {c : Code} {D : va_G} {A : Nat → Prop} {ad : Nat → Nat} {ca : Nat → ClassId} (o : z_Sg) (C0 : z_cx z_RMo b_Mo_moveNumber 4 none D (z_Mt ca) A p s m args meth c) (q : z_Sg) (x1 : Int32) (h : k_Mo_moveNumber_17 x1 q = some o) : ∀ (H : Heap) (locs : List Loc) (ls : Array Slot), z_wd D (z_M ad ca q) A s H locs → lv_has ls 4 [(0, .ref (ad 0)), (1, .int x1)] → W p l e (z_rm 7 174) s m args below meth c H locs 0 0 (z_qv below D (z_Mt ca) (z_M ad ca o) A s args) (F0 m 17 ls []) := by
  obtain ⟨hx, hb, hr, hlk, hml, hown, hts, hK, hA⟩ := id C0
  intro H locs ls hw hl
  refine lv_aload_n hx hb d_Mo_moveNumber_17 rfl (lv_at hl 0 rfl) ?_
  obtain ⟨r3, er3, h⟩ := ok_b h
  refine z_vv (rest := []) C0 hw (c_Mo_takePlace q r3 er3) mw_Mo_takePlace ml_Mo_170 0 rfl ⟨Nat.le_of_ble_eq_true rfl, Nat.le_of_ble_eq_true rfl⟩ ⟨Nat.le_refl 0, Nat.le_refl 0⟩ rfl hl.1 rfl (Nat.le_of_ble_eq_true rfl) d_Mo_moveNumber_18 (fun H locs hw => ?_)
  refine lv_aload_n hx hb d_Mo_moveNumber_21 rfl (lv_at hl 0 rfl) ?_
  refine lv_iload_n hx hb d_Mo_moveNumber_22 rfl (lv_at hl 1 rfl) ?_
  obtain ⟨r4, er4, h⟩ := ok_b h
  refine z_si (rest := [.ref (ad 0)]) C0 hw (c_Mo_four x1 r3 r4 er4) mw_Mo_four ml_Mo_370 ⟨Nat.le_of_ble_eq_true rfl, Nat.le_of_ble_eq_true rfl⟩ ⟨Nat.le_refl 0, Nat.le_refl 0⟩ rfl hl.1 rfl (Nat.le_of_ble_eq_true rfl) d_Mo_moveNumber_23 (fun H locs hw => ?_)
  obtain ⟨r5, er5, h⟩ := ok_b h
  refine z_vl (rest := []) C0 hw (c_Mo_number r4 r3 r5 er5) mw_Mo_number ml_Mo_373 0 rfl ⟨Nat.le_of_ble_eq_true rfl, Nat.le_of_ble_eq_true rfl⟩ ⟨Nat.le_refl 0, Nat.le_refl 0⟩ rfl hl.1 rfl (Nat.le_of_ble_eq_true rfl) d_Mo_moveNumber_26 (fun H locs hw => ?_)
  refine lv_lstore_n (lv' := [(2, .long r5.1), (0, .ref (ad 0)), (1, .int x1)]) hx hb d_Mo_moveNumber_29 rfl hl (by decide) rfl (fun ls hl => ?_)
  refine lv_aload_n hx hb d_Mo_moveNumber_30 rfl (lv_at hl 1 rfl) ?_
  refine lv_iload_n hx hb d_Mo_moveNumber_31 rfl (lv_at hl 2 rfl) ?_
  refine lv_iconst (v := (1 : Int32)) hx hb d_Mo_moveNumber_32 (by decide) ?_
  obtain ⟨r6, er6, h⟩ := ok_b h
  refine z_vl (rest := []) C0 hw (c_Mo_e x1 (1 : Int32) r5.2 r6 er6) mw_Mo_e ml_Mo_338 0 rfl ⟨Nat.le_of_ble_eq_true rfl, Nat.le_of_ble_eq_true rfl⟩ ⟨Nat.le_refl 0, Nat.le_refl 0⟩ rfl hl.1 rfl (Nat.le_of_ble_eq_true rfl) d_Mo_moveNumber_33 (fun H locs hw => ?_)
  refine lv_pop2_2 hx hb d_Mo_moveNumber_36 rfl ?_
  refine lv_aload_n hx hb d_Mo_moveNumber_37 rfl (lv_at hl 1 rfl) ?_
  refine lv_iload_n hx hb d_Mo_moveNumber_38 rfl (lv_at hl 2 rfl) ?_
  refine lv_lload_n hx hb d_Mo_moveNumber_39 rfl (lv_at hl 0 rfl) ?_
  obtain ⟨r7, er7, h⟩ := ok_b h
  refine z_vv (rest := []) C0 hw (c_Mo_setE x1 r5.1 r6.2 r7 er7) mw_Mo_setE ml_Mo_348 0 rfl ⟨Nat.le_of_ble_eq_true rfl, Nat.le_of_ble_eq_true rfl⟩ ⟨Nat.le_refl 0, Nat.le_refl 0⟩ rfl hl.1 rfl (Nat.le_of_ble_eq_true rfl) d_Mo_moveNumber_40 (fun H locs hw => ?_)
  have ho := Option.some.inj h
  subst ho
  exact z_rtv C0 hw d_Mo_moveNumber_43
set_option maxHeartbeats 4000000 in
set_option maxRecDepth 100000 in
theorem c_Mo_moveNumber {l : Launch} {D : va_G} {ad : Nat → Nat} {ca : Nat → ClassId} (x1 : Int32) (q : z_Sg) (o : z_Sg) (h : f_Mo_moveNumber x1 q = some o) : z_cv l y_Mo_moveNumber b_Mo_moveNumber 4 none 7 174 D (z_Mt ca) (z_M ad ca q) (z_M ad ca o) [.ref (ad 0), .int x1] := by
  refine z_cv_of (own := z_RMo) (by decide) rfl ?_
  intro p e s m below meth c A C0 hw
  obtain ⟨hx, hb, hr, hlk, hml, hown, hts, hK, hA⟩ := id C0
  generalize hH : s.heap = H at hw ⊢
  generalize hlo : ([] : List Loc) = locs at hw ⊢
  refine z_entry (lv := [(0, .ref (ad 0)), (1, .int x1)]) (Nat.le_of_ble_eq_true rfl) rfl (fun ls hl => ?_)
  unfold f_Mo_moveNumber at h
  refine lv_aload_n hx hb d_Mo_moveNumber_0 rfl (lv_at hl 0 rfl) ?_
  obtain ⟨r1, er1, h⟩ := ok_b h
  refine z_vv (rest := []) C0 hw (c_Mo_takeMod q r1 er1) mw_Mo_takeMod ml_Mo_167 0 rfl ⟨Nat.le_of_ble_eq_true rfl, Nat.le_of_ble_eq_true rfl⟩ ⟨Nat.le_refl 0, Nat.le_refl 0⟩ rfl hl.1 rfl (Nat.le_of_ble_eq_true rfl) d_Mo_moveNumber_1 (fun H locs hw => ?_)
  refine lv_aload_n hx hb d_Mo_moveNumber_4 rfl (lv_at hl 0 rfl) ?_
  refine gfM_0_reg C0 hw fl_Mo_139 d_Mo_moveNumber_5 ?_
  refine lv_if_eq (tgt := 17) hx hb d_Mo_moveNumber_8 (by decide) (fun c2 => ?_) (fun c2 => ?_)
  · have h := ok_t h c2
    exact w_Mo_moveNumber_17 o C0 r1 x1 h H locs ls hw (lv_sub hl [0, 1] rfl)
  · have h := ok_f h c2
    refine lv_aload_n hx hb d_Mo_moveNumber_11 rfl (lv_at hl 0 rfl) ?_
    refine lv_bipush (v := (6 : Int32)) hx hb d_Mo_moveNumber_12 (by decide) ?_
    obtain ⟨r8, er8, h⟩ := ok_b h
    refine z_vv (rest := []) C0 hw (c_Mo_refuse (6 : Int32) r1 r8 er8) mw_Mo_refuse ml_Mo_81 0 rfl ⟨Nat.le_of_ble_eq_true rfl, Nat.le_of_ble_eq_true rfl⟩ ⟨Nat.le_refl 0, Nat.le_refl 0⟩ rfl hl.1 rfl (Nat.le_of_ble_eq_true rfl) d_Mo_moveNumber_14 (fun H locs hw => ?_)
    exact w_Mo_moveNumber_17 o C0 r8 x1 h H locs ls hw (lv_sub hl [0, 1] rfl)
def k_Mo_far_67 (q : z_Sg) : Option z_Sg :=
  some q
def k_Mo_far_52 (x1 : Int32) (x4 : Int64) (q : z_Sg) : Option z_Sg :=
  if x1 = (232 : Int32) then ((f_Mo_push x4 (8 : Int32) q).bind (fun r7 => k_Mo_far_67 r7)) else (k_Mo_far_67 q)
def k_Mo_far_26 (x1 : Int32) (t1 : Int32) (q : z_Sg) : Option z_Sg :=
  (f_Mo_number t1 q).bind (fun r3 => z_nm ((z_gL r3.2 7)) (fun n4 => if (z_gI r3.2 4) = (-1 : Int32) then ((f_Mo_jump (n4 + r3.1) r3.2).bind (fun r8 => k_Mo_far_52 x1 n4 r8)) else (k_Mo_far_52 x1 n4 r3.2)))
def k_Mo_far_13 (x1 : Int32) (q : z_Sg) : Option z_Sg :=
  if x1 = (235 : Int32) then (k_Mo_far_26 x1 (1 : Int32) q) else (k_Mo_far_26 x1 (4 : Int32) q)
def f_Mo_far (x1 : Int32) (q : z_Sg) : Option z_Sg :=
  if (z_gI q 16) = 0 then (k_Mo_far_13 x1 q) else ((f_Mo_refuse (6 : Int32) q).bind (fun r9 => k_Mo_far_13 x1 r9))
set_option maxHeartbeats 4000000 in
set_option maxRecDepth 100000 in
theorem w_Mo_far_67 {p : Program} {l : Launch} {e : Env} {s : State} {m : MethodId} {args : Array Value} {below : List Frame} {meth : Method} {c : Code} {D : va_G} {A : Nat → Prop} {ad : Nat → Nat} {ca : Nat → ClassId} (o : z_Sg) (C0 : z_cx z_RMo b_Mo_far 6 none D (z_Mt ca) A p s m args meth c) (q : z_Sg) (h : k_Mo_far_67 q = some o) : ∀ (H : Heap) (locs : List Loc) (ls : Array Slot), z_wd D (z_M ad ca q) A s H locs → lv_has ls 6 [] → W p l e (z_rm 7 174) s m args below meth c H locs 0 0 (z_qv below D (z_Mt ca) (z_M ad ca o) A s args) (F0 m 67 ls []) := by
  obtain ⟨hx, hb, hr, hlk, hml, hown, hts, hK, hA⟩ := id C0
  intro H locs ls hw hl
  have ho := Option.some.inj h
  subst ho
  exact z_rtv C0 hw d_Mo_far_67
set_option maxHeartbeats 4000000 in
set_option maxRecDepth 100000 in
theorem w_Mo_far_52 {p : Program} {l : Launch} {e : Env} {s : State} {m : MethodId} {args : Array Value} {below : List Frame} {meth : Method} {c : Code} {D : va_G} {A : Nat → Prop} {ad : Nat → Nat} {ca : Nat → ClassId} (o : z_Sg) (C0 : z_cx z_RMo b_Mo_far 6 none D (z_Mt ca) A p s m args meth c) (q : z_Sg) (x1 : Int32) (x4 : Int64) (h : k_Mo_far_52 x1 x4 q = some o) : ∀ (H : Heap) (locs : List Loc) (ls : Array Slot), z_wd D (z_M ad ca q) A s H locs → lv_has ls 6 [(0, .ref (ad 0)), (1, .int x1), (4, .long x4)] → W p l e (z_rm 7 174) s m args below meth c H locs 0 0 (z_qv below D (z_Mt ca) (z_M ad ca o) A s args) (F0 m 52 ls []) := by
  obtain ⟨hx, hb, hr, hlk, hml, hown, hts, hK, hA⟩ := id C0
  intro H locs ls hw hl
  refine lv_iload_n hx hb d_Mo_far_52 rfl (lv_at hl 1 rfl) ?_
  refine lv_sipush (v := (232 : Int32)) hx hb d_Mo_far_53 (by decide) ?_
  refine lv_icmp_ne (tgt := 67) hx hb d_Mo_far_56 (by decide) (fun c6 => ?_) (fun c6 => ?_)
  · have h := ok_f h c6
    exact w_Mo_far_67 o C0 q h H locs ls hw (lv_sub hl [] rfl)
  · have h := ok_t h c6
    refine lv_aload_n hx hb d_Mo_far_59 rfl (lv_at hl 0 rfl) ?_
    refine lv_lload hx hb d_Mo_far_60 (lv_at hl 2 rfl) ?_
    refine lv_bipush (v := (8 : Int32)) hx hb d_Mo_far_62 (by decide) ?_
    obtain ⟨r7, er7, h⟩ := ok_b h
    refine z_vv (rest := []) C0 hw (c_Mo_push x4 (8 : Int32) q r7 er7) mw_Mo_push ml_Mo_310 0 rfl ⟨Nat.le_of_ble_eq_true rfl, Nat.le_of_ble_eq_true rfl⟩ ⟨Nat.le_refl 0, Nat.le_refl 0⟩ rfl hl.1 rfl (Nat.le_of_ble_eq_true rfl) d_Mo_far_64 (fun H locs hw => ?_)
    exact w_Mo_far_67 o C0 r7 h H locs ls hw (lv_sub hl [] rfl)
set_option maxHeartbeats 4000000 in
set_option maxRecDepth 100000 in
theorem w_Mo_far_26 {p : Program} {l : Launch} {e : Env} {s : State} {m : MethodId} {args : Array Value} {below : List Frame} {meth : Method} {c : Code} {D : va_G} {A : Nat → Prop} {ad : Nat → Nat} {ca : Nat → ClassId} (o : z_Sg) (C0 : z_cx z_RMo b_Mo_far 6 none D (z_Mt ca) A p s m args meth c) (q : z_Sg) (x1 : Int32) (t1 : Int32) (h : k_Mo_far_26 x1 t1 q = some o) : ∀ (H : Heap) (locs : List Loc) (ls : Array Slot), z_wd D (z_M ad ca q) A s H locs → lv_has ls 6 [(0, .ref (ad 0)), (1, .int x1)] → W p l e (z_rm 7 174) s m args below meth c H locs 0 0 (z_qv below D (z_Mt ca) (z_M ad ca o) A s args) (F0 m 26 ls [.int t1, .ref (ad 0)]) := by
  obtain ⟨hx, hb, hr, hlk, hml, hown, hts, hK, hA⟩ := id C0
  intro H locs ls hw hl
  obtain ⟨r3, er3, h⟩ := ok_b h
  refine z_vl (rest := []) C0 hw (c_Mo_number t1 q r3 er3) mw_Mo_number ml_Mo_373 0 rfl ⟨Nat.le_of_ble_eq_true rfl, Nat.le_of_ble_eq_true rfl⟩ ⟨Nat.le_refl 0, Nat.le_refl 0⟩ rfl hl.1 rfl (Nat.le_of_ble_eq_true rfl) d_Mo_far_26 (fun H locs hw => ?_)
  refine lv_lstore_n (lv' := [(2, .long r3.1), (0, .ref (ad 0)), (1, .int x1)]) hx hb d_Mo_far_29 rfl hl (by decide) rfl (fun ls hl => ?_)
  refine lv_aload_n hx hb d_Mo_far_30 rfl (lv_at hl 1 rfl) ?_
  refine gfM_0_goes C0 hw fl_Mo_173 d_Mo_far_31 ?_
  obtain ⟨n4, en4, h⟩ := ok_n h
  refine z_tl en4 ?_
  refine lv_lstore (lv' := [(4, .long n4), (2, .long r3.1), (0, .ref (ad 0)), (1, .int x1)]) hx hb d_Mo_far_34 hl (by decide) rfl (fun ls hl => ?_)
  refine lv_aload_n hx hb d_Mo_far_36 rfl (lv_at hl 2 rfl) ?_
  refine gfM_0_refused C0 hw fl_Mo_28 d_Mo_far_37 ?_
  refine lv_iconst (v := (-1 : Int32)) hx hb d_Mo_far_40 (by decide) ?_
  refine lv_icmp_ne (tgt := 52) hx hb d_Mo_far_41 (by decide) (fun c5 => ?_) (fun c5 => ?_)
  · have h := ok_f h c5
    exact w_Mo_far_52 o C0 r3.2 x1 n4 h H locs ls hw (lv_sub hl [2, 3, 0] rfl)
  · have h := ok_t h c5
    refine lv_aload_n hx hb d_Mo_far_44 rfl (lv_at hl 2 rfl) ?_
    refine lv_lload hx hb d_Mo_far_45 (lv_at hl 0 rfl) ?_
    refine lv_lload_n hx hb d_Mo_far_47 rfl (lv_at hl 1 rfl) ?_
    refine lv_ladd hx hb d_Mo_far_48 ?_
    obtain ⟨r8, er8, h⟩ := ok_b h
    refine z_vv (rest := []) C0 hw (c_Mo_jump (n4 + r3.1) r3.2 r8 er8) mw_Mo_jump ml_Mo_431 0 rfl ⟨Nat.le_of_ble_eq_true rfl, Nat.le_of_ble_eq_true rfl⟩ ⟨Nat.le_refl 0, Nat.le_refl 0⟩ rfl hl.1 rfl (Nat.le_of_ble_eq_true rfl) d_Mo_far_49 (fun H locs hw => ?_)
    exact w_Mo_far_52 o C0 r8 x1 n4 h H locs ls hw (lv_sub hl [2, 3, 0] rfl)
set_option maxHeartbeats 4000000 in
set_option maxRecDepth 100000 in
theorem w_Mo_far_13 {p : Program} {l : Launch} {e : Env} {s : State} {m : MethodId} {args : Array Value} {below : List Frame} {meth : Method} {c : Code} {D : va_G} {A : Nat → Prop} {ad : Nat → Nat} {ca : Nat → ClassId} (o : z_Sg) (C0 : z_cx z_RMo b_Mo_far 6 none D (z_Mt ca) A p s m args meth c) (q : z_Sg) (x1 : Int32) (h : k_Mo_far_13 x1 q = some o) : ∀ (H : Heap) (locs : List Loc) (ls : Array Slot), z_wd D (z_M ad ca q) A s H locs → lv_has ls 6 [(0, .ref (ad 0)), (1, .int x1)] → W p l e (z_rm 7 174) s m args below meth c H locs 0 0 (z_qv below D (z_Mt ca) (z_M ad ca o) A s args) (F0 m 13 ls []) := by
  obtain ⟨hx, hb, hr, hlk, hml, hown, hts, hK, hA⟩ := id C0
  intro H locs ls hw hl
  refine lv_aload_n hx hb d_Mo_far_13 rfl (lv_at hl 0 rfl) ?_
  refine lv_iload_n hx hb d_Mo_far_14 rfl (lv_at hl 1 rfl) ?_
  refine lv_sipush (v := (235 : Int32)) hx hb d_Mo_far_15 (by decide) ?_
  refine lv_icmp_ne (tgt := 25) hx hb d_Mo_far_18 (by decide) (fun c2 => ?_) (fun c2 => ?_)
  · have h := ok_f h c2
    refine lv_iconst (v := (4 : Int32)) hx hb d_Mo_far_25 (by decide) ?_
    exact w_Mo_far_26 o C0 q x1 (4 : Int32) h H locs ls hw (lv_sub hl [0, 1] rfl)
  · have h := ok_t h c2
    refine lv_iconst (v := (1 : Int32)) hx hb d_Mo_far_21 (by decide) ?_
    refine lv_goto (tgt := 26) hx hb d_Mo_far_22 (by decide) ?_
    exact w_Mo_far_26 o C0 q x1 (1 : Int32) h H locs ls hw (lv_sub hl [0, 1] rfl)
set_option maxHeartbeats 4000000 in
set_option maxRecDepth 100000 in
theorem c_Mo_far {l : Launch} {D : va_G} {ad : Nat → Nat} {ca : Nat → ClassId} (x1 : Int32) (q : z_Sg) (o : z_Sg) (h : f_Mo_far x1 q = some o) : z_cv l y_Mo_far b_Mo_far 6 none 7 174 D (z_Mt ca) (z_M ad ca q) (z_M ad ca o) [.ref (ad 0), .int x1] := by
  refine z_cv_of (own := z_RMo) (by decide) rfl ?_
  intro p e s m below meth c A C0 hw
  obtain ⟨hx, hb, hr, hlk, hml, hown, hts, hK, hA⟩ := id C0
  generalize hH : s.heap = H at hw ⊢
  generalize hlo : ([] : List Loc) = locs at hw ⊢
  refine z_entry (lv := [(0, .ref (ad 0)), (1, .int x1)]) (Nat.le_of_ble_eq_true rfl) rfl (fun ls hl => ?_)
  unfold f_Mo_far at h
  refine lv_aload_n hx hb d_Mo_far_0 rfl (lv_at hl 0 rfl) ?_
  refine gfM_0_small C0 hw fl_Mo_127 d_Mo_far_1 ?_
  refine lv_if_eq (tgt := 13) hx hb d_Mo_far_4 (by decide) (fun c1 => ?_) (fun c1 => ?_)
  · have h := ok_t h c1
    exact w_Mo_far_13 o C0 q x1 h H locs ls hw (lv_sub hl [0, 1] rfl)
  · have h := ok_f h c1
    refine lv_aload_n hx hb d_Mo_far_7 rfl (lv_at hl 0 rfl) ?_
    refine lv_bipush (v := (6 : Int32)) hx hb d_Mo_far_8 (by decide) ?_
    obtain ⟨r9, er9, h⟩ := ok_b h
    refine z_vv (rest := []) C0 hw (c_Mo_refuse (6 : Int32) q r9 er9) mw_Mo_refuse ml_Mo_81 0 rfl ⟨Nat.le_of_ble_eq_true rfl, Nat.le_of_ble_eq_true rfl⟩ ⟨Nat.le_refl 0, Nat.le_refl 0⟩ rfl hl.1 rfl (Nat.le_of_ble_eq_true rfl) d_Mo_far_10 (fun H locs hw => ?_)
    exact w_Mo_far_13 o C0 r9 x1 h H locs ls hw (lv_sub hl [0, 1] rfl)
def k_Mo_leaveFrame_13 (q : z_Sg) : Option z_Sg :=
  if z_bad (5 : Int32) 16 then none else (if z_bad (4 : Int32) 16 then none else (z_nm (z_sM q 0 (4 : Int32).toNatClampNeg (z_gM q 0 (5 : Int32).toNatClampNeg)) (fun q4 => (f_Mo_pop (8 : Int32) q4).bind (fun r5 => if z_bad (5 : Int32) 16 then none else (z_nm (z_sM r5.2 0 (5 : Int32).toNatClampNeg r5.1) (fun q7 => some q7))))))
def f_Mo_leaveFrame (q : z_Sg) : Option z_Sg :=
  if (z_gI q 16) = 0 then (k_Mo_leaveFrame_13 q) else ((f_Mo_refuse (6 : Int32) q).bind (fun r8 => k_Mo_leaveFrame_13 r8))
set_option maxHeartbeats 4000000 in
set_option maxRecDepth 100000 in
theorem w_Mo_leaveFrame_13 {p : Program} {l : Launch} {e : Env} {s : State} {m : MethodId} {args : Array Value} {below : List Frame} {meth : Method} {c : Code} {D : va_G} {A : Nat → Prop} {ad : Nat → Nat} {ca : Nat → ClassId} (o : z_Sg) (C0 : z_cx z_RMo b_Mo_leaveFrame 1 none D (z_Mt ca) A p s m args meth c) (q : z_Sg) (h : k_Mo_leaveFrame_13 q = some o) : ∀ (H : Heap) (locs : List Loc) (ls : Array Slot), z_wd D (z_M ad ca q) A s H locs → lv_has ls 1 [(0, .ref (ad 0))] → W p l e (z_rm 6 154) s m args below meth c H locs 0 0 (z_qv below D (z_Mt ca) (z_M ad ca o) A s args) (F0 m 13 ls []) := by
  obtain ⟨hx, hb, hr, hlk, hml, hown, hts, hK, hA⟩ := id C0
  intro H locs ls hw hl
  refine lv_aload_n hx hb d_Mo_leaveFrame_13 rfl (lv_at hl 0 rfl) ?_
  refine gfM_0_r C0 hw fl_Mo_14 d_Mo_leaveFrame_14 ?_
  refine lv_iconst (v := (4 : Int32)) hx hb d_Mo_leaveFrame_17 (by decide) ?_
  refine lv_aload_n hx hb d_Mo_leaveFrame_18 rfl (lv_at hl 0 rfl) ?_
  refine gfM_0_r C0 hw fl_Mo_14 d_Mo_leaveFrame_19 ?_
  refine lv_iconst (v := (5 : Int32)) hx hb d_Mo_leaveFrame_22 (by decide) ?_
  obtain ⟨b2, h⟩ := ok_g h
  refine alM_2 C0 hw b2 d_Mo_leaveFrame_23 ?_
  obtain ⟨b3, h⟩ := ok_g h
  refine asM_2 C0 hw b3 d_Mo_leaveFrame_24 (fun H locs hw => ?_)
  obtain ⟨q4, eq4, h⟩ := ok_n h
  rw [← eq4] at hw
  refine lv_aload_n hx hb d_Mo_leaveFrame_25 rfl (lv_at hl 0 rfl) ?_
  refine gfM_0_r C0 hw fl_Mo_14 d_Mo_leaveFrame_26 ?_
  refine lv_iconst (v := (5 : Int32)) hx hb d_Mo_leaveFrame_29 (by decide) ?_
  refine lv_aload_n hx hb d_Mo_leaveFrame_30 rfl (lv_at hl 0 rfl) ?_
  refine lv_bipush (v := (8 : Int32)) hx hb d_Mo_leaveFrame_31 (by decide) ?_
  obtain ⟨r5, er5, h⟩ := ok_b h
  refine z_vl (rest := [.int (5 : Int32), .ref (ad 2)]) C0 hw (c_Mo_pop (8 : Int32) q4 r5 er5) mw_Mo_pop ml_Mo_313 0 rfl ⟨Nat.le_of_ble_eq_true rfl, Nat.le_of_ble_eq_true rfl⟩ ⟨Nat.le_refl 0, Nat.le_refl 0⟩ rfl hl.1 rfl (Nat.le_of_ble_eq_true rfl) d_Mo_leaveFrame_33 (fun H locs hw => ?_)
  obtain ⟨b6, h⟩ := ok_g h
  refine asM_2 C0 hw b6 d_Mo_leaveFrame_36 (fun H locs hw => ?_)
  obtain ⟨q7, eq7, h⟩ := ok_n h
  rw [← eq7] at hw
  have ho := Option.some.inj h
  subst ho
  exact z_rtv C0 hw d_Mo_leaveFrame_37
set_option maxHeartbeats 4000000 in
set_option maxRecDepth 100000 in
theorem c_Mo_leaveFrame {l : Launch} {D : va_G} {ad : Nat → Nat} {ca : Nat → ClassId} (q : z_Sg) (o : z_Sg) (h : f_Mo_leaveFrame q = some o) : z_cv l y_Mo_leaveFrame b_Mo_leaveFrame 1 none 6 154 D (z_Mt ca) (z_M ad ca q) (z_M ad ca o) [.ref (ad 0)] := by
  refine z_cv_of (own := z_RMo) (by decide) rfl ?_
  intro p e s m below meth c A C0 hw
  obtain ⟨hx, hb, hr, hlk, hml, hown, hts, hK, hA⟩ := id C0
  generalize hH : s.heap = H at hw ⊢
  generalize hlo : ([] : List Loc) = locs at hw ⊢
  refine z_entry (lv := [(0, .ref (ad 0))]) (Nat.le_of_ble_eq_true rfl) rfl (fun ls hl => ?_)
  unfold f_Mo_leaveFrame at h
  refine lv_aload_n hx hb d_Mo_leaveFrame_0 rfl (lv_at hl 0 rfl) ?_
  refine gfM_0_small C0 hw fl_Mo_127 d_Mo_leaveFrame_1 ?_
  refine lv_if_eq (tgt := 13) hx hb d_Mo_leaveFrame_4 (by decide) (fun c1 => ?_) (fun c1 => ?_)
  · have h := ok_t h c1
    exact w_Mo_leaveFrame_13 o C0 q h H locs ls hw (lv_sub hl [0] rfl)
  · have h := ok_f h c1
    refine lv_aload_n hx hb d_Mo_leaveFrame_7 rfl (lv_at hl 0 rfl) ?_
    refine lv_bipush (v := (6 : Int32)) hx hb d_Mo_leaveFrame_8 (by decide) ?_
    obtain ⟨r8, er8, h⟩ := ok_b h
    refine z_vv (rest := []) C0 hw (c_Mo_refuse (6 : Int32) q r8 er8) mw_Mo_refuse ml_Mo_81 0 rfl ⟨Nat.le_of_ble_eq_true rfl, Nat.le_of_ble_eq_true rfl⟩ ⟨Nat.le_refl 0, Nat.le_refl 0⟩ rfl hl.1 rfl (Nat.le_of_ble_eq_true rfl) d_Mo_leaveFrame_10 (fun H locs hw => ?_)
    exact w_Mo_leaveFrame_13 o C0 r8 h H locs ls hw (lv_sub hl [0] rfl)
def k_Mo_popOperand_17 (q : z_Sg) : Option z_Sg :=
  (f_Mo_takePlace q).bind (fun r3 => z_nm (z_sL r3 7 ((z_gL r3 0) + ((z_gI r3 6).toInt64))) (fun q4 => (f_Mo_stackSize q4).bind (fun r5 => (f_Mo_pop r5 q4).bind (fun r6 => (f_Mo_stackSize r6.2).bind (fun r7 => (f_Mo_e r7 (1 : Int32) r6.2).bind (fun r8 => (f_Mo_stackSize r8.2).bind (fun r9 => (f_Mo_setE r9 r6.1 r8.2).bind (fun r10 => some r10))))))))
def f_Mo_popOperand (q : z_Sg) : Option z_Sg :=
  (f_Mo_takeMod q).bind (fun r1 => if (z_gI r1 8) = 0 then (k_Mo_popOperand_17 r1) else ((f_Mo_refuse (6 : Int32) r1).bind (fun r11 => k_Mo_popOperand_17 r11)))
set_option maxHeartbeats 4000000 in
set_option maxRecDepth 100000 in
theorem w_Mo_popOperand_17 {p : Program} {l : Launch} {e : Env} {s : State} {m : MethodId} {args : Array Value} {below : List Frame} {meth : Method} {c : Code} {D : va_G} {A : Nat → Prop} {ad : Nat → Nat} {ca : Nat → ClassId} (o : z_Sg) (C0 : z_cx z_RMo b_Mo_popOperand 3 none D (z_Mt ca) A p s m args meth c) (q : z_Sg) (h : k_Mo_popOperand_17 q = some o) : ∀ (H : Heap) (locs : List Loc) (ls : Array Slot), z_wd D (z_M ad ca q) A s H locs → lv_has ls 3 [(0, .ref (ad 0))] → W p l e (z_rm 7 173) s m args below meth c H locs 0 0 (z_qv below D (z_Mt ca) (z_M ad ca o) A s args) (F0 m 17 ls []) := by
  obtain ⟨hx, hb, hr, hlk, hml, hown, hts, hK, hA⟩ := id C0
  intro H locs ls hw hl
  refine lv_aload_n hx hb d_Mo_popOperand_17 rfl (lv_at hl 0 rfl) ?_
  obtain ⟨r3, er3, h⟩ := ok_b h
  refine z_vv (rest := []) C0 hw (c_Mo_takePlace q r3 er3) mw_Mo_takePlace ml_Mo_170 0 rfl ⟨Nat.le_of_ble_eq_true rfl, Nat.le_of_ble_eq_true rfl⟩ ⟨Nat.le_refl 0, Nat.le_refl 0⟩ rfl hl.1 rfl (Nat.le_of_ble_eq_true rfl) d_Mo_popOperand_18 (fun H locs hw => ?_)
  refine lv_aload_n hx hb d_Mo_popOperand_21 rfl (lv_at hl 0 rfl) ?_
  refine lv_aload_n hx hb d_Mo_popOperand_22 rfl (lv_at hl 0 rfl) ?_
  refine gfM_0_next C0 hw fl_Mo_111 d_Mo_popOperand_23 ?_
  refine lv_aload_n hx hb d_Mo_popOperand_26 rfl (lv_at hl 0 rfl) ?_
  refine gfM_0_length C0 hw fl_Mo_108 d_Mo_popOperand_27 ?_
  refine lv_i2l hx hb d_Mo_popOperand_30 rfl ?_
  refine lv_ladd hx hb d_Mo_popOperand_31 ?_
  refine pfM_0_goes C0 hw fl_Mo_173 d_Mo_popOperand_32 (fun H locs hw => ?_)
  obtain ⟨q4, eq4, h⟩ := ok_n h
  rw [← eq4] at hw
  refine lv_aload_n hx hb d_Mo_popOperand_35 rfl (lv_at hl 0 rfl) ?_
  refine lv_aload_n hx hb d_Mo_popOperand_36 rfl (lv_at hl 0 rfl) ?_
  obtain ⟨r5, er5, h⟩ := ok_b h
  refine z_vi (rest := [.ref (ad 0)]) C0 hw (c_Mo_stackSize q4 r5 er5) mw_Mo_stackSize ml_Mo_307 0 rfl ⟨Nat.le_of_ble_eq_true rfl, Nat.le_of_ble_eq_true rfl⟩ ⟨Nat.le_refl 0, Nat.le_refl 0⟩ rfl hl.1 rfl (Nat.le_of_ble_eq_true rfl) d_Mo_popOperand_37 (fun H locs hw => ?_)
  obtain ⟨r6, er6, h⟩ := ok_b h
  refine z_vl (rest := []) C0 hw (c_Mo_pop r5 q4 r6 er6) mw_Mo_pop ml_Mo_313 0 rfl ⟨Nat.le_of_ble_eq_true rfl, Nat.le_of_ble_eq_true rfl⟩ ⟨Nat.le_refl 0, Nat.le_refl 0⟩ rfl hl.1 rfl (Nat.le_of_ble_eq_true rfl) d_Mo_popOperand_40 (fun H locs hw => ?_)
  refine lv_lstore_n (lv' := [(1, .long r6.1), (0, .ref (ad 0))]) hx hb d_Mo_popOperand_43 rfl hl (by decide) rfl (fun ls hl => ?_)
  refine lv_aload_n hx hb d_Mo_popOperand_44 rfl (lv_at hl 1 rfl) ?_
  refine lv_aload_n hx hb d_Mo_popOperand_45 rfl (lv_at hl 1 rfl) ?_
  obtain ⟨r7, er7, h⟩ := ok_b h
  refine z_vi (rest := [.ref (ad 0)]) C0 hw (c_Mo_stackSize r6.2 r7 er7) mw_Mo_stackSize ml_Mo_307 0 rfl ⟨Nat.le_of_ble_eq_true rfl, Nat.le_of_ble_eq_true rfl⟩ ⟨Nat.le_refl 0, Nat.le_refl 0⟩ rfl hl.1 rfl (Nat.le_of_ble_eq_true rfl) d_Mo_popOperand_46 (fun H locs hw => ?_)
  refine lv_iconst (v := (1 : Int32)) hx hb d_Mo_popOperand_49 (by decide) ?_
  obtain ⟨r8, er8, h⟩ := ok_b h
  refine z_vl (rest := []) C0 hw (c_Mo_e r7 (1 : Int32) r6.2 r8 er8) mw_Mo_e ml_Mo_338 0 rfl ⟨Nat.le_of_ble_eq_true rfl, Nat.le_of_ble_eq_true rfl⟩ ⟨Nat.le_refl 0, Nat.le_refl 0⟩ rfl hl.1 rfl (Nat.le_of_ble_eq_true rfl) d_Mo_popOperand_50 (fun H locs hw => ?_)
  refine lv_pop2_2 hx hb d_Mo_popOperand_53 rfl ?_
  refine lv_aload_n hx hb d_Mo_popOperand_54 rfl (lv_at hl 1 rfl) ?_
  refine lv_aload_n hx hb d_Mo_popOperand_55 rfl (lv_at hl 1 rfl) ?_
  obtain ⟨r9, er9, h⟩ := ok_b h
  refine z_vi (rest := [.ref (ad 0)]) C0 hw (c_Mo_stackSize r8.2 r9 er9) mw_Mo_stackSize ml_Mo_307 0 rfl ⟨Nat.le_of_ble_eq_true rfl, Nat.le_of_ble_eq_true rfl⟩ ⟨Nat.le_refl 0, Nat.le_refl 0⟩ rfl hl.1 rfl (Nat.le_of_ble_eq_true rfl) d_Mo_popOperand_56 (fun H locs hw => ?_)
  refine lv_lload_n hx hb d_Mo_popOperand_59 rfl (lv_at hl 0 rfl) ?_
  obtain ⟨r10, er10, h⟩ := ok_b h
  refine z_vv (rest := []) C0 hw (c_Mo_setE r9 r6.1 r8.2 r10 er10) mw_Mo_setE ml_Mo_348 0 rfl ⟨Nat.le_of_ble_eq_true rfl, Nat.le_of_ble_eq_true rfl⟩ ⟨Nat.le_refl 0, Nat.le_refl 0⟩ rfl hl.1 rfl (Nat.le_of_ble_eq_true rfl) d_Mo_popOperand_60 (fun H locs hw => ?_)
  have ho := Option.some.inj h
  subst ho
  exact z_rtv C0 hw d_Mo_popOperand_63
set_option maxHeartbeats 4000000 in
set_option maxRecDepth 100000 in
theorem c_Mo_popOperand {l : Launch} {D : va_G} {ad : Nat → Nat} {ca : Nat → ClassId} (q : z_Sg) (o : z_Sg) (h : f_Mo_popOperand q = some o) : z_cv l y_Mo_popOperand b_Mo_popOperand 3 none 7 173 D (z_Mt ca) (z_M ad ca q) (z_M ad ca o) [.ref (ad 0)] := by
  refine z_cv_of (own := z_RMo) (by decide) rfl ?_
  intro p e s m below meth c A C0 hw
  obtain ⟨hx, hb, hr, hlk, hml, hown, hts, hK, hA⟩ := id C0
  generalize hH : s.heap = H at hw ⊢
  generalize hlo : ([] : List Loc) = locs at hw ⊢
  refine z_entry (lv := [(0, .ref (ad 0))]) (Nat.le_of_ble_eq_true rfl) rfl (fun ls hl => ?_)
  unfold f_Mo_popOperand at h
  refine lv_aload_n hx hb d_Mo_popOperand_0 rfl (lv_at hl 0 rfl) ?_
  obtain ⟨r1, er1, h⟩ := ok_b h
  refine z_vv (rest := []) C0 hw (c_Mo_takeMod q r1 er1) mw_Mo_takeMod ml_Mo_167 0 rfl ⟨Nat.le_of_ble_eq_true rfl, Nat.le_of_ble_eq_true rfl⟩ ⟨Nat.le_refl 0, Nat.le_refl 0⟩ rfl hl.1 rfl (Nat.le_of_ble_eq_true rfl) d_Mo_popOperand_1 (fun H locs hw => ?_)
  refine lv_aload_n hx hb d_Mo_popOperand_4 rfl (lv_at hl 0 rfl) ?_
  refine gfM_0_reg C0 hw fl_Mo_139 d_Mo_popOperand_5 ?_
  refine lv_if_eq (tgt := 17) hx hb d_Mo_popOperand_8 (by decide) (fun c2 => ?_) (fun c2 => ?_)
  · have h := ok_t h c2
    exact w_Mo_popOperand_17 o C0 r1 h H locs ls hw (lv_sub hl [0] rfl)
  · have h := ok_f h c2
    refine lv_aload_n hx hb d_Mo_popOperand_11 rfl (lv_at hl 0 rfl) ?_
    refine lv_bipush (v := (6 : Int32)) hx hb d_Mo_popOperand_12 (by decide) ?_
    obtain ⟨r11, er11, h⟩ := ok_b h
    refine z_vv (rest := []) C0 hw (c_Mo_refuse (6 : Int32) r1 r11 er11) mw_Mo_refuse ml_Mo_81 0 rfl ⟨Nat.le_of_ble_eq_true rfl, Nat.le_of_ble_eq_true rfl⟩ ⟨Nat.le_refl 0, Nat.le_refl 0⟩ rfl hl.1 rfl (Nat.le_of_ble_eq_true rfl) d_Mo_popOperand_14 (fun H locs hw => ?_)
    exact w_Mo_popOperand_17 o C0 r11 h H locs ls hw (lv_sub hl [0] rfl)
def k_Mo_address_56 (q : z_Sg) : Option z_Sg :=
  some q
def k_Mo_address_18 (q : z_Sg) : Option z_Sg :=
  (f_Mo_takePlace q).bind (fun r3 => z_nm (z_sL r3 7 ((z_gL r3 0) + ((z_gI r3 6).toInt64))) (fun q4 => if (z_gI q4 4) = (-1 : Int32) then ((f_Mo_wide q4).bind (fun r6 => (f_Mo_place q4).bind (fun r7 => (f_Mo_setG r6 r7 q4).bind (fun r8 => k_Mo_address_56 r8)))) else (k_Mo_address_56 q4)))
def f_Mo_address (q : z_Sg) : Option z_Sg :=
  (f_Mo_takeMod q).bind (fun r1 => if (z_gI r1 7) = (3 : Int32) then ((f_Mo_refuse (6 : Int32) r1).bind (fun r9 => k_Mo_address_18 r9)) else (k_Mo_address_18 r1))
set_option maxHeartbeats 4000000 in
set_option maxRecDepth 100000 in
theorem w_Mo_address_56 {p : Program} {l : Launch} {e : Env} {s : State} {m : MethodId} {args : Array Value} {below : List Frame} {meth : Method} {c : Code} {D : va_G} {A : Nat → Prop} {ad : Nat → Nat} {ca : Nat → ClassId} (o : z_Sg) (C0 : z_cx z_RMo b_Mo_address 1 none D (z_Mt ca) A p s m args meth c) (q : z_Sg) (h : k_Mo_address_56 q = some o) : ∀ (H : Heap) (locs : List Loc) (ls : Array Slot), z_wd D (z_M ad ca q) A s H locs → lv_has ls 1 [] → W p l e (z_rm 7 173) s m args below meth c H locs 0 0 (z_qv below D (z_Mt ca) (z_M ad ca o) A s args) (F0 m 56 ls []) := by
  obtain ⟨hx, hb, hr, hlk, hml, hown, hts, hK, hA⟩ := id C0
  intro H locs ls hw hl
  have ho := Option.some.inj h
  subst ho
  exact z_rtv C0 hw d_Mo_address_56
set_option maxHeartbeats 4000000 in
set_option maxRecDepth 100000 in
theorem w_Mo_address_18 {p : Program} {l : Launch} {e : Env} {s : State} {m : MethodId} {args : Array Value} {below : List Frame} {meth : Method} {c : Code} {D : va_G} {A : Nat → Prop} {ad : Nat → Nat} {ca : Nat → ClassId} (o : z_Sg) (C0 : z_cx z_RMo b_Mo_address 1 none D (z_Mt ca) A p s m args meth c) (q : z_Sg) (h : k_Mo_address_18 q = some o) : ∀ (H : Heap) (locs : List Loc) (ls : Array Slot), z_wd D (z_M ad ca q) A s H locs → lv_has ls 1 [(0, .ref (ad 0))] → W p l e (z_rm 7 173) s m args below meth c H locs 0 0 (z_qv below D (z_Mt ca) (z_M ad ca o) A s args) (F0 m 18 ls []) := by
  obtain ⟨hx, hb, hr, hlk, hml, hown, hts, hK, hA⟩ := id C0
  intro H locs ls hw hl
  refine lv_aload_n hx hb d_Mo_address_18 rfl (lv_at hl 0 rfl) ?_
  obtain ⟨r3, er3, h⟩ := ok_b h
  refine z_vv (rest := []) C0 hw (c_Mo_takePlace q r3 er3) mw_Mo_takePlace ml_Mo_170 0 rfl ⟨Nat.le_of_ble_eq_true rfl, Nat.le_of_ble_eq_true rfl⟩ ⟨Nat.le_refl 0, Nat.le_refl 0⟩ rfl hl.1 rfl (Nat.le_of_ble_eq_true rfl) d_Mo_address_19 (fun H locs hw => ?_)
  refine lv_aload_n hx hb d_Mo_address_22 rfl (lv_at hl 0 rfl) ?_
  refine lv_aload_n hx hb d_Mo_address_23 rfl (lv_at hl 0 rfl) ?_
  refine gfM_0_next C0 hw fl_Mo_111 d_Mo_address_24 ?_
  refine lv_aload_n hx hb d_Mo_address_27 rfl (lv_at hl 0 rfl) ?_
  refine gfM_0_length C0 hw fl_Mo_108 d_Mo_address_28 ?_
  refine lv_i2l hx hb d_Mo_address_31 rfl ?_
  refine lv_ladd hx hb d_Mo_address_32 ?_
  refine pfM_0_goes C0 hw fl_Mo_173 d_Mo_address_33 (fun H locs hw => ?_)
  obtain ⟨q4, eq4, h⟩ := ok_n h
  rw [← eq4] at hw
  refine lv_aload_n hx hb d_Mo_address_36 rfl (lv_at hl 0 rfl) ?_
  refine gfM_0_refused C0 hw fl_Mo_28 d_Mo_address_37 ?_
  refine lv_iconst (v := (-1 : Int32)) hx hb d_Mo_address_40 (by decide) ?_
  refine lv_icmp_ne (tgt := 56) hx hb d_Mo_address_41 (by decide) (fun c5 => ?_) (fun c5 => ?_)
  · have h := ok_f h c5
    exact w_Mo_address_56 o C0 q4 h H locs ls hw (lv_sub hl [] rfl)
  · have h := ok_t h c5
    refine lv_aload_n hx hb d_Mo_address_44 rfl (lv_at hl 0 rfl) ?_
    refine lv_aload_n hx hb d_Mo_address_45 rfl (lv_at hl 0 rfl) ?_
    obtain ⟨r6, er6, h⟩ := ok_b h
    refine z_vi (rest := [.ref (ad 0)]) C0 hw (c_Mo_wide q4 r6 er6) mw_Mo_wide ml_Mo_235 0 rfl ⟨Nat.le_of_ble_eq_true rfl, Nat.le_of_ble_eq_true rfl⟩ ⟨Nat.le_refl 0, Nat.le_refl 0⟩ rfl hl.1 rfl (Nat.le_of_ble_eq_true rfl) d_Mo_address_46 (fun H locs hw => ?_)
    refine lv_aload_n hx hb d_Mo_address_49 rfl (lv_at hl 0 rfl) ?_
    obtain ⟨r7, er7, h⟩ := ok_b h
    refine z_vl (rest := [.int r6, .ref (ad 0)]) C0 hw (c_Mo_place q4 r7 er7) mw_Mo_place ml_Mo_193 0 rfl ⟨Nat.le_of_ble_eq_true rfl, Nat.le_of_ble_eq_true rfl⟩ ⟨Nat.le_refl 0, Nat.le_refl 0⟩ rfl hl.1 rfl (Nat.le_of_ble_eq_true rfl) d_Mo_address_50 (fun H locs hw => ?_)
    obtain ⟨r8, er8, h⟩ := ok_b h
    refine z_vv (rest := []) C0 hw (c_Mo_setG r6 r7 q4 r8 er8) mw_Mo_setG ml_Mo_344 0 rfl ⟨Nat.le_of_ble_eq_true rfl, Nat.le_of_ble_eq_true rfl⟩ ⟨Nat.le_refl 0, Nat.le_refl 0⟩ rfl hl.1 rfl (Nat.le_of_ble_eq_true rfl) d_Mo_address_53 (fun H locs hw => ?_)
    exact w_Mo_address_56 o C0 r8 h H locs ls hw (lv_sub hl [] rfl)
set_option maxHeartbeats 4000000 in
set_option maxRecDepth 100000 in
theorem c_Mo_address {l : Launch} {D : va_G} {ad : Nat → Nat} {ca : Nat → ClassId} (q : z_Sg) (o : z_Sg) (h : f_Mo_address q = some o) : z_cv l y_Mo_address b_Mo_address 1 none 7 173 D (z_Mt ca) (z_M ad ca q) (z_M ad ca o) [.ref (ad 0)] := by
  refine z_cv_of (own := z_RMo) (by decide) rfl ?_
  intro p e s m below meth c A C0 hw
  obtain ⟨hx, hb, hr, hlk, hml, hown, hts, hK, hA⟩ := id C0
  generalize hH : s.heap = H at hw ⊢
  generalize hlo : ([] : List Loc) = locs at hw ⊢
  refine z_entry (lv := [(0, .ref (ad 0))]) (Nat.le_of_ble_eq_true rfl) rfl (fun ls hl => ?_)
  unfold f_Mo_address at h
  refine lv_aload_n hx hb d_Mo_address_0 rfl (lv_at hl 0 rfl) ?_
  obtain ⟨r1, er1, h⟩ := ok_b h
  refine z_vv (rest := []) C0 hw (c_Mo_takeMod q r1 er1) mw_Mo_takeMod ml_Mo_167 0 rfl ⟨Nat.le_of_ble_eq_true rfl, Nat.le_of_ble_eq_true rfl⟩ ⟨Nat.le_refl 0, Nat.le_refl 0⟩ rfl hl.1 rfl (Nat.le_of_ble_eq_true rfl) d_Mo_address_1 (fun H locs hw => ?_)
  refine lv_aload_n hx hb d_Mo_address_4 rfl (lv_at hl 0 rfl) ?_
  refine gfM_0_mod C0 hw fl_Mo_136 d_Mo_address_5 ?_
  refine lv_iconst (v := (3 : Int32)) hx hb d_Mo_address_8 (by decide) ?_
  refine lv_icmp_ne (tgt := 18) hx hb d_Mo_address_9 (by decide) (fun c2 => ?_) (fun c2 => ?_)
  · have h := ok_f h c2
    exact w_Mo_address_18 o C0 r1 h H locs ls hw (lv_sub hl [0] rfl)
  · have h := ok_t h c2
    refine lv_aload_n hx hb d_Mo_address_12 rfl (lv_at hl 0 rfl) ?_
    refine lv_bipush (v := (6 : Int32)) hx hb d_Mo_address_13 (by decide) ?_
    obtain ⟨r9, er9, h⟩ := ok_b h
    refine z_vv (rest := []) C0 hw (c_Mo_refuse (6 : Int32) r1 r9 er9) mw_Mo_refuse ml_Mo_81 0 rfl ⟨Nat.le_of_ble_eq_true rfl, Nat.le_of_ble_eq_true rfl⟩ ⟨Nat.le_refl 0, Nat.le_refl 0⟩ rfl hl.1 rfl (Nat.le_of_ble_eq_true rfl) d_Mo_address_15 (fun H locs hw => ?_)
    exact w_Mo_address_18 o C0 r9 h H locs ls hw (lv_sub hl [0] rfl)
def f_Mo_extend (x1 : Int32) (x2 : Int32) (q : z_Sg) : Option z_Sg :=
  (f_Mo_takeOperand q).bind (fun r1 => (f_Mo_e x2 (0 : Int32) r1).bind (fun r2 => (f_Mo_extended r2.1 x2 r2.2).bind (fun r3 => (f_Mo_setG x1 r3 r2.2).bind (fun r4 => some r4))))
set_option maxHeartbeats 4000000 in
set_option maxRecDepth 100000 in
theorem c_Mo_extend {l : Launch} {D : va_G} {ad : Nat → Nat} {ca : Nat → ClassId} (x1 : Int32) (x2 : Int32) (q : z_Sg) (o : z_Sg) (h : f_Mo_extend x1 x2 q = some o) : z_cv l y_Mo_extend b_Mo_extend 3 none 8 193 D (z_Mt ca) (z_M ad ca q) (z_M ad ca o) [.ref (ad 0), .int x1, .int x2] := by
  refine z_cv_of (own := z_RMo) (by decide) rfl ?_
  intro p e s m below meth c A C0 hw
  obtain ⟨hx, hb, hr, hlk, hml, hown, hts, hK, hA⟩ := id C0
  generalize hH : s.heap = H at hw ⊢
  generalize hlo : ([] : List Loc) = locs at hw ⊢
  refine z_entry (lv := [(0, .ref (ad 0)), (1, .int x1), (2, .int x2)]) (Nat.le_of_ble_eq_true rfl) rfl (fun ls hl => ?_)
  unfold f_Mo_extend at h
  refine lv_aload_n hx hb d_Mo_extend_0 rfl (lv_at hl 0 rfl) ?_
  obtain ⟨r1, er1, h⟩ := ok_b h
  refine z_vv (rest := []) C0 hw (c_Mo_takeOperand q r1 er1) mw_Mo_takeOperand ml_Mo_335 0 rfl ⟨Nat.le_of_ble_eq_true rfl, Nat.le_of_ble_eq_true rfl⟩ ⟨Nat.le_refl 0, Nat.le_refl 0⟩ rfl hl.1 rfl (Nat.le_of_ble_eq_true rfl) d_Mo_extend_1 (fun H locs hw => ?_)
  refine lv_aload_n hx hb d_Mo_extend_4 rfl (lv_at hl 0 rfl) ?_
  refine lv_iload_n hx hb d_Mo_extend_5 rfl (lv_at hl 1 rfl) ?_
  refine lv_aload_n hx hb d_Mo_extend_6 rfl (lv_at hl 0 rfl) ?_
  refine lv_iload_n hx hb d_Mo_extend_7 rfl (lv_at hl 2 rfl) ?_
  refine lv_iconst (v := (0 : Int32)) hx hb d_Mo_extend_8 (by decide) ?_
  obtain ⟨r2, er2, h⟩ := ok_b h
  refine z_vl (rest := [.int x1, .ref (ad 0)]) C0 hw (c_Mo_e x2 (0 : Int32) r1 r2 er2) mw_Mo_e ml_Mo_338 0 rfl ⟨Nat.le_of_ble_eq_true rfl, Nat.le_of_ble_eq_true rfl⟩ ⟨Nat.le_refl 0, Nat.le_refl 0⟩ rfl hl.1 rfl (Nat.le_of_ble_eq_true rfl) d_Mo_extend_9 (fun H locs hw => ?_)
  refine lv_iload_n hx hb d_Mo_extend_12 rfl (lv_at hl 2 rfl) ?_
  obtain ⟨r3, er3, h⟩ := ok_b h
  refine z_sl (rest := [.int x1, .ref (ad 0)]) C0 hw (c_Mo_extended r2.1 x2 r2.2 r3 er3) mw_Mo_extended ml_Mo_118 ⟨Nat.le_of_ble_eq_true rfl, Nat.le_of_ble_eq_true rfl⟩ ⟨Nat.le_refl 0, Nat.le_refl 0⟩ rfl hl.1 rfl (Nat.le_of_ble_eq_true rfl) d_Mo_extend_13 (fun H locs hw => ?_)
  obtain ⟨r4, er4, h⟩ := ok_b h
  refine z_vv (rest := []) C0 hw (c_Mo_setG x1 r3 r2.2 r4 er4) mw_Mo_setG ml_Mo_344 0 rfl ⟨Nat.le_of_ble_eq_true rfl, Nat.le_of_ble_eq_true rfl⟩ ⟨Nat.le_refl 0, Nat.le_refl 0⟩ rfl hl.1 rfl (Nat.le_of_ble_eq_true rfl) d_Mo_extend_16 (fun H locs hw => ?_)
  have ho := Option.some.inj h
  subst ho
  exact z_rtv C0 hw d_Mo_extend_19
def k_Mo_others_261 (q : z_Sg) : Option z_Sg :=
  some q
def k_Mo_others_42 (x1 : Int32) (q : z_Sg) : Option z_Sg :=
  (f_Mo_pushNumber x1 q).bind (fun r3 => k_Mo_others_261 r3)
def k_Mo_others_62 (x1 : Int32) (q : z_Sg) : Option z_Sg :=
  (f_Mo_product x1 q).bind (fun r6 => k_Mo_others_261 r6)
def k_Mo_others_160 (x2 : Int32) (q : z_Sg) : Option z_Sg :=
  (f_Mo_testNumber x2 q).bind (fun r13 => k_Mo_others_261 r13)
def k_Mo_others_182 (x1 : Int32) (q : z_Sg) : Option z_Sg :=
  (f_Mo_returns x1 q).bind (fun r16 => k_Mo_others_261 r16)
def k_Mo_others_204 (x2 : Int32) (q : z_Sg) : Option z_Sg :=
  (f_Mo_moveNumber x2 q).bind (fun r19 => k_Mo_others_261 r19)
def k_Mo_others_247 (x1 : Int32) (q : z_Sg) : Option z_Sg :=
  (f_Mo_far x1 q).bind (fun r23 => k_Mo_others_261 r23)
def k_Mo_others_24 (t1 : Int32) (t2 : Int32) (q : z_Sg) : Option z_Sg :=
  (f_Mo_extend t1 t2 q).bind (fun r39 => k_Mo_others_261 r39)
def f_Mo_others (x1 : Int32) (x2 : Int32) (q : z_Sg) : Option z_Sg :=
  if x1 = (99 : Int32) then ((f_Mo_wide q).bind (fun r36 => (f_Mo_wide q).bind (fun r37 => if r37 = (2 : Int32) then (k_Mo_others_24 r36 (2 : Int32) q) else (k_Mo_others_24 r36 (4 : Int32) q)))) else (if x1 = (104 : Int32) then (k_Mo_others_42 x1 q) else (if x1 = (106 : Int32) then (k_Mo_others_42 x1 q) else (if x1 = (105 : Int32) then (k_Mo_others_62 x1 q) else (if x1 = (107 : Int32) then (k_Mo_others_62 x1 q) else (if x1 = (141 : Int32) then ((f_Mo_address q).bind (fun r35 => k_Mo_others_261 r35)) else (if x1 = (143 : Int32) then ((f_Mo_popOperand q).bind (fun r34 => k_Mo_others_261 r34)) else (if x1 = (156 : Int32) then ((f_Mo_flags q).bind (fun r31 => (f_Mo_stackSize q).bind (fun r32 => (f_Mo_push (r31 ||| (2 : Int64)) r32 q).bind (fun r33 => k_Mo_others_261 r33)))) else (if x1 = (157 : Int32) then ((f_Mo_stackSize q).bind (fun r28 => (f_Mo_pop r28 q).bind (fun r29 => (f_Mo_setFlags r29.1 r29.2).bind (fun r30 => k_Mo_others_261 r30)))) else (if x1 = (168 : Int32) then (k_Mo_others_160 x2 q) else (if x1 = (169 : Int32) then (k_Mo_others_160 x2 q) else (if x1 = (194 : Int32) then (k_Mo_others_182 x1 q) else (if x1 = (195 : Int32) then (k_Mo_others_182 x1 q) else (if x1 = (198 : Int32) then (k_Mo_others_204 x2 q) else (if x1 = (199 : Int32) then (k_Mo_others_204 x2 q) else (if x1 = (201 : Int32) then ((f_Mo_leaveFrame q).bind (fun r27 => k_Mo_others_261 r27)) else (if x1 = (232 : Int32) then (k_Mo_others_247 x1 q) else (if x1 = (233 : Int32) then (k_Mo_others_247 x1 q) else (if x1 = (235 : Int32) then (k_Mo_others_247 x1 q) else ((f_Mo_refuse (6 : Int32) q).bind (fun r26 => k_Mo_others_261 r26))))))))))))))))))))
set_option maxHeartbeats 4000000 in
set_option maxRecDepth 100000 in
theorem w_Mo_others_261 {p : Program} {l : Launch} {e : Env} {s : State} {m : MethodId} {args : Array Value} {below : List Frame} {meth : Method} {c : Code} {D : va_G} {A : Nat → Prop} {ad : Nat → Nat} {ca : Nat → ClassId} (o : z_Sg) (C0 : z_cx z_RMo b_Mo_others 3 none D (z_Mt ca) A p s m args meth c) (q : z_Sg) (h : k_Mo_others_261 q = some o) : ∀ (H : Heap) (locs : List Loc) (ls : Array Slot), z_wd D (z_M ad ca q) A s H locs → lv_has ls 3 [] → W p l e (z_rm 9 222) s m args below meth c H locs 0 0 (z_qv below D (z_Mt ca) (z_M ad ca o) A s args) (F0 m 261 ls []) := by
  obtain ⟨hx, hb, hr, hlk, hml, hown, hts, hK, hA⟩ := id C0
  intro H locs ls hw hl
  have ho := Option.some.inj h
  subst ho
  exact z_rtv C0 hw d_Mo_others_261
set_option maxHeartbeats 4000000 in
set_option maxRecDepth 100000 in
theorem w_Mo_others_42 {p : Program} {l : Launch} {e : Env} {s : State} {m : MethodId} {args : Array Value} {below : List Frame} {meth : Method} {c : Code} {D : va_G} {A : Nat → Prop} {ad : Nat → Nat} {ca : Nat → ClassId} (o : z_Sg) (C0 : z_cx z_RMo b_Mo_others 3 none D (z_Mt ca) A p s m args meth c) (q : z_Sg) (x1 : Int32) (h : k_Mo_others_42 x1 q = some o) : ∀ (H : Heap) (locs : List Loc) (ls : Array Slot), z_wd D (z_M ad ca q) A s H locs → lv_has ls 3 [(0, .ref (ad 0)), (1, .int x1)] → W p l e (z_rm 9 222) s m args below meth c H locs 0 0 (z_qv below D (z_Mt ca) (z_M ad ca o) A s args) (F0 m 42 ls []) := by
  obtain ⟨hx, hb, hr, hlk, hml, hown, hts, hK, hA⟩ := id C0
  intro H locs ls hw hl
  refine lv_aload_n hx hb d_Mo_others_42 rfl (lv_at hl 0 rfl) ?_
  refine lv_iload_n hx hb d_Mo_others_43 rfl (lv_at hl 1 rfl) ?_
  obtain ⟨r3, er3, h⟩ := ok_b h
  refine z_vv (rest := []) C0 hw (c_Mo_pushNumber x1 q r3 er3) mw_Mo_pushNumber ml_Mo_292 0 rfl ⟨Nat.le_of_ble_eq_true rfl, Nat.le_of_ble_eq_true rfl⟩ ⟨Nat.le_refl 0, Nat.le_refl 0⟩ rfl hl.1 rfl (Nat.le_of_ble_eq_true rfl) d_Mo_others_44 (fun H locs hw => ?_)
  refine lv_goto (tgt := 261) hx hb d_Mo_others_47 (by decide) ?_
  exact w_Mo_others_261 o C0 r3 h H locs ls hw (lv_sub hl [] rfl)
set_option maxHeartbeats 4000000 in
set_option maxRecDepth 100000 in
theorem w_Mo_others_62 {p : Program} {l : Launch} {e : Env} {s : State} {m : MethodId} {args : Array Value} {below : List Frame} {meth : Method} {c : Code} {D : va_G} {A : Nat → Prop} {ad : Nat → Nat} {ca : Nat → ClassId} (o : z_Sg) (C0 : z_cx z_RMo b_Mo_others 3 none D (z_Mt ca) A p s m args meth c) (q : z_Sg) (x1 : Int32) (h : k_Mo_others_62 x1 q = some o) : ∀ (H : Heap) (locs : List Loc) (ls : Array Slot), z_wd D (z_M ad ca q) A s H locs → lv_has ls 3 [(0, .ref (ad 0)), (1, .int x1)] → W p l e (z_rm 9 222) s m args below meth c H locs 0 0 (z_qv below D (z_Mt ca) (z_M ad ca o) A s args) (F0 m 62 ls []) := by
  obtain ⟨hx, hb, hr, hlk, hml, hown, hts, hK, hA⟩ := id C0
  intro H locs ls hw hl
  refine lv_aload_n hx hb d_Mo_others_62 rfl (lv_at hl 0 rfl) ?_
  refine lv_iload_n hx hb d_Mo_others_63 rfl (lv_at hl 1 rfl) ?_
  obtain ⟨r6, er6, h⟩ := ok_b h
  refine z_vv (rest := []) C0 hw (c_Mo_product x1 q r6 er6) mw_Mo_product ml_Mo_295 0 rfl ⟨Nat.le_of_ble_eq_true rfl, Nat.le_of_ble_eq_true rfl⟩ ⟨Nat.le_refl 0, Nat.le_refl 0⟩ rfl hl.1 rfl (Nat.le_of_ble_eq_true rfl) d_Mo_others_64 (fun H locs hw => ?_)
  refine lv_goto (tgt := 261) hx hb d_Mo_others_67 (by decide) ?_
  exact w_Mo_others_261 o C0 r6 h H locs ls hw (lv_sub hl [] rfl)
set_option maxHeartbeats 4000000 in
set_option maxRecDepth 100000 in
theorem w_Mo_others_160 {p : Program} {l : Launch} {e : Env} {s : State} {m : MethodId} {args : Array Value} {below : List Frame} {meth : Method} {c : Code} {D : va_G} {A : Nat → Prop} {ad : Nat → Nat} {ca : Nat → ClassId} (o : z_Sg) (C0 : z_cx z_RMo b_Mo_others 3 none D (z_Mt ca) A p s m args meth c) (q : z_Sg) (x2 : Int32) (h : k_Mo_others_160 x2 q = some o) : ∀ (H : Heap) (locs : List Loc) (ls : Array Slot), z_wd D (z_M ad ca q) A s H locs → lv_has ls 3 [(0, .ref (ad 0)), (2, .int x2)] → W p l e (z_rm 9 222) s m args below meth c H locs 0 0 (z_qv below D (z_Mt ca) (z_M ad ca o) A s args) (F0 m 160 ls []) := by
  obtain ⟨hx, hb, hr, hlk, hml, hown, hts, hK, hA⟩ := id C0
  intro H locs ls hw hl
  refine lv_aload_n hx hb d_Mo_others_160 rfl (lv_at hl 0 rfl) ?_
  refine lv_iload_n hx hb d_Mo_others_161 rfl (lv_at hl 1 rfl) ?_
  obtain ⟨r13, er13, h⟩ := ok_b h
  refine z_vv (rest := []) C0 hw (c_Mo_testNumber x2 q r13 er13) mw_Mo_testNumber ml_Mo_320 0 rfl ⟨Nat.le_of_ble_eq_true rfl, Nat.le_of_ble_eq_true rfl⟩ ⟨Nat.le_refl 0, Nat.le_refl 0⟩ rfl hl.1 rfl (Nat.le_of_ble_eq_true rfl) d_Mo_others_162 (fun H locs hw => ?_)
  refine lv_goto (tgt := 261) hx hb d_Mo_others_165 (by decide) ?_
  exact w_Mo_others_261 o C0 r13 h H locs ls hw (lv_sub hl [] rfl)
set_option maxHeartbeats 4000000 in
set_option maxRecDepth 100000 in
theorem w_Mo_others_182 {p : Program} {l : Launch} {e : Env} {s : State} {m : MethodId} {args : Array Value} {below : List Frame} {meth : Method} {c : Code} {D : va_G} {A : Nat → Prop} {ad : Nat → Nat} {ca : Nat → ClassId} (o : z_Sg) (C0 : z_cx z_RMo b_Mo_others 3 none D (z_Mt ca) A p s m args meth c) (q : z_Sg) (x1 : Int32) (h : k_Mo_others_182 x1 q = some o) : ∀ (H : Heap) (locs : List Loc) (ls : Array Slot), z_wd D (z_M ad ca q) A s H locs → lv_has ls 3 [(0, .ref (ad 0)), (1, .int x1)] → W p l e (z_rm 9 222) s m args below meth c H locs 0 0 (z_qv below D (z_Mt ca) (z_M ad ca o) A s args) (F0 m 182 ls []) := by
  obtain ⟨hx, hb, hr, hlk, hml, hown, hts, hK, hA⟩ := id C0
  intro H locs ls hw hl
  refine lv_aload_n hx hb d_Mo_others_182 rfl (lv_at hl 0 rfl) ?_
  refine lv_iload_n hx hb d_Mo_others_183 rfl (lv_at hl 1 rfl) ?_
  obtain ⟨r16, er16, h⟩ := ok_b h
  refine z_vv (rest := []) C0 hw (c_Mo_returns x1 q r16 er16) mw_Mo_returns ml_Mo_323 0 rfl ⟨Nat.le_of_ble_eq_true rfl, Nat.le_of_ble_eq_true rfl⟩ ⟨Nat.le_refl 0, Nat.le_refl 0⟩ rfl hl.1 rfl (Nat.le_of_ble_eq_true rfl) d_Mo_others_184 (fun H locs hw => ?_)
  refine lv_goto (tgt := 261) hx hb d_Mo_others_187 (by decide) ?_
  exact w_Mo_others_261 o C0 r16 h H locs ls hw (lv_sub hl [] rfl)
set_option maxHeartbeats 4000000 in
set_option maxRecDepth 100000 in
theorem w_Mo_others_204 {p : Program} {l : Launch} {e : Env} {s : State} {m : MethodId} {args : Array Value} {below : List Frame} {meth : Method} {c : Code} {D : va_G} {A : Nat → Prop} {ad : Nat → Nat} {ca : Nat → ClassId} (o : z_Sg) (C0 : z_cx z_RMo b_Mo_others 3 none D (z_Mt ca) A p s m args meth c) (q : z_Sg) (x2 : Int32) (h : k_Mo_others_204 x2 q = some o) : ∀ (H : Heap) (locs : List Loc) (ls : Array Slot), z_wd D (z_M ad ca q) A s H locs → lv_has ls 3 [(0, .ref (ad 0)), (2, .int x2)] → W p l e (z_rm 9 222) s m args below meth c H locs 0 0 (z_qv below D (z_Mt ca) (z_M ad ca o) A s args) (F0 m 204 ls []) := by
  obtain ⟨hx, hb, hr, hlk, hml, hown, hts, hK, hA⟩ := id C0
  intro H locs ls hw hl
  refine lv_aload_n hx hb d_Mo_others_204 rfl (lv_at hl 0 rfl) ?_
  refine lv_iload_n hx hb d_Mo_others_205 rfl (lv_at hl 1 rfl) ?_
  obtain ⟨r19, er19, h⟩ := ok_b h
  refine z_vv (rest := []) C0 hw (c_Mo_moveNumber x2 q r19 er19) mw_Mo_moveNumber ml_Mo_326 0 rfl ⟨Nat.le_of_ble_eq_true rfl, Nat.le_of_ble_eq_true rfl⟩ ⟨Nat.le_refl 0, Nat.le_refl 0⟩ rfl hl.1 rfl (Nat.le_of_ble_eq_true rfl) d_Mo_others_206 (fun H locs hw => ?_)
  refine lv_goto (tgt := 261) hx hb d_Mo_others_209 (by decide) ?_
  exact w_Mo_others_261 o C0 r19 h H locs ls hw (lv_sub hl [] rfl)
set_option maxHeartbeats 4000000 in
set_option maxRecDepth 100000 in
theorem w_Mo_others_247 {p : Program} {l : Launch} {e : Env} {s : State} {m : MethodId} {args : Array Value} {below : List Frame} {meth : Method} {c : Code} {D : va_G} {A : Nat → Prop} {ad : Nat → Nat} {ca : Nat → ClassId} (o : z_Sg) (C0 : z_cx z_RMo b_Mo_others 3 none D (z_Mt ca) A p s m args meth c) (q : z_Sg) (x1 : Int32) (h : k_Mo_others_247 x1 q = some o) : ∀ (H : Heap) (locs : List Loc) (ls : Array Slot), z_wd D (z_M ad ca q) A s H locs → lv_has ls 3 [(0, .ref (ad 0)), (1, .int x1)] → W p l e (z_rm 9 222) s m args below meth c H locs 0 0 (z_qv below D (z_Mt ca) (z_M ad ca o) A s args) (F0 m 247 ls []) := by
  obtain ⟨hx, hb, hr, hlk, hml, hown, hts, hK, hA⟩ := id C0
  intro H locs ls hw hl
  refine lv_aload_n hx hb d_Mo_others_247 rfl (lv_at hl 0 rfl) ?_
  refine lv_iload_n hx hb d_Mo_others_248 rfl (lv_at hl 1 rfl) ?_
  obtain ⟨r23, er23, h⟩ := ok_b h
  refine z_vv (rest := []) C0 hw (c_Mo_far x1 q r23 er23) mw_Mo_far ml_Mo_332 0 rfl ⟨Nat.le_of_ble_eq_true rfl, Nat.le_of_ble_eq_true rfl⟩ ⟨Nat.le_refl 0, Nat.le_refl 0⟩ rfl hl.1 rfl (Nat.le_of_ble_eq_true rfl) d_Mo_others_249 (fun H locs hw => ?_)
  refine lv_goto (tgt := 261) hx hb d_Mo_others_252 (by decide) ?_
  exact w_Mo_others_261 o C0 r23 h H locs ls hw (lv_sub hl [] rfl)
set_option maxHeartbeats 4000000 in
set_option maxRecDepth 100000 in
theorem w_Mo_others_24 {p : Program} {l : Launch} {e : Env} {s : State} {m : MethodId} {args : Array Value} {below : List Frame} {meth : Method} {c : Code} {D : va_G} {A : Nat → Prop} {ad : Nat → Nat} {ca : Nat → ClassId} (o : z_Sg) (C0 : z_cx z_RMo b_Mo_others 3 none D (z_Mt ca) A p s m args meth c) (q : z_Sg) (t1 : Int32) (t2 : Int32) (h : k_Mo_others_24 t1 t2 q = some o) : ∀ (H : Heap) (locs : List Loc) (ls : Array Slot), z_wd D (z_M ad ca q) A s H locs → lv_has ls 3 [] → W p l e (z_rm 9 222) s m args below meth c H locs 0 0 (z_qv below D (z_Mt ca) (z_M ad ca o) A s args) (F0 m 24 ls [.int t2, .int t1, .ref (ad 0)]) := by
  obtain ⟨hx, hb, hr, hlk, hml, hown, hts, hK, hA⟩ := id C0
  intro H locs ls hw hl
  obtain ⟨r39, er39, h⟩ := ok_b h
  refine z_vv (rest := []) C0 hw (c_Mo_extend t1 t2 q r39 er39) mw_Mo_extend ml_Mo_289 0 rfl ⟨Nat.le_of_ble_eq_true rfl, Nat.le_of_ble_eq_true rfl⟩ ⟨Nat.le_refl 0, Nat.le_refl 0⟩ rfl hl.1 rfl (Nat.le_of_ble_eq_true rfl) d_Mo_others_24 (fun H locs hw => ?_)
  refine lv_goto (tgt := 261) hx hb d_Mo_others_27 (by decide) ?_
  exact w_Mo_others_261 o C0 r39 h H locs ls hw (lv_sub hl [] rfl)
set_option maxHeartbeats 4000000 in
set_option maxRecDepth 100000 in
theorem c_Mo_others {l : Launch} {D : va_G} {ad : Nat → Nat} {ca : Nat → ClassId} (x1 : Int32) (x2 : Int32) (q : z_Sg) (o : z_Sg) (h : f_Mo_others x1 x2 q = some o) : z_cv l y_Mo_others b_Mo_others 3 none 9 222 D (z_Mt ca) (z_M ad ca q) (z_M ad ca o) [.ref (ad 0), .int x1, .int x2] := by
  refine z_cv_of (own := z_RMo) (by decide) rfl ?_
  intro p e s m below meth c A C0 hw
  obtain ⟨hx, hb, hr, hlk, hml, hown, hts, hK, hA⟩ := id C0
  generalize hH : s.heap = H at hw ⊢
  generalize hlo : ([] : List Loc) = locs at hw ⊢
  refine z_entry (lv := [(0, .ref (ad 0)), (1, .int x1), (2, .int x2)]) (Nat.le_of_ble_eq_true rfl) rfl (fun ls hl => ?_)
  unfold f_Mo_others at h
  refine lv_iload_n hx hb d_Mo_others_0 rfl (lv_at hl 1 rfl) ?_
  refine lv_bipush (v := (99 : Int32)) hx hb d_Mo_others_1 (by decide) ?_
  refine lv_icmp_ne (tgt := 30) hx hb d_Mo_others_3 (by decide) (fun c1 => ?_) (fun c1 => ?_)
  · have h := ok_f h c1
    refine lv_iload_n hx hb d_Mo_others_30 rfl (lv_at hl 1 rfl) ?_
    refine lv_bipush (v := (104 : Int32)) hx hb d_Mo_others_31 (by decide) ?_
    refine lv_icmp_eq (tgt := 42) hx hb d_Mo_others_33 (by decide) (fun c2 => ?_) (fun c2 => ?_)
    · have h := ok_t h c2
      exact w_Mo_others_42 o C0 q x1 h H locs ls hw (lv_sub hl [0, 1] rfl)
    · have h := ok_f h c2
      refine lv_iload_n hx hb d_Mo_others_36 rfl (lv_at hl 1 rfl) ?_
      refine lv_bipush (v := (106 : Int32)) hx hb d_Mo_others_37 (by decide) ?_
      refine lv_icmp_ne (tgt := 50) hx hb d_Mo_others_39 (by decide) (fun c4 => ?_) (fun c4 => ?_)
      · have h := ok_f h c4
        refine lv_iload_n hx hb d_Mo_others_50 rfl (lv_at hl 1 rfl) ?_
        refine lv_bipush (v := (105 : Int32)) hx hb d_Mo_others_51 (by decide) ?_
        refine lv_icmp_eq (tgt := 62) hx hb d_Mo_others_53 (by decide) (fun c5 => ?_) (fun c5 => ?_)
        · have h := ok_t h c5
          exact w_Mo_others_62 o C0 q x1 h H locs ls hw (lv_sub hl [0, 1] rfl)
        · have h := ok_f h c5
          refine lv_iload_n hx hb d_Mo_others_56 rfl (lv_at hl 1 rfl) ?_
          refine lv_bipush (v := (107 : Int32)) hx hb d_Mo_others_57 (by decide) ?_
          refine lv_icmp_ne (tgt := 70) hx hb d_Mo_others_59 (by decide) (fun c7 => ?_) (fun c7 => ?_)
          · have h := ok_f h c7
            refine lv_iload_n hx hb d_Mo_others_70 rfl (lv_at hl 1 rfl) ?_
            refine lv_sipush (v := (141 : Int32)) hx hb d_Mo_others_71 (by decide) ?_
            refine lv_icmp_ne (tgt := 84) hx hb d_Mo_others_74 (by decide) (fun c8 => ?_) (fun c8 => ?_)
            · have h := ok_f h c8
              refine lv_iload_n hx hb d_Mo_others_84 rfl (lv_at hl 1 rfl) ?_
              refine lv_sipush (v := (143 : Int32)) hx hb d_Mo_others_85 (by decide) ?_
              refine lv_icmp_ne (tgt := 98) hx hb d_Mo_others_88 (by decide) (fun c9 => ?_) (fun c9 => ?_)
              · have h := ok_f h c9
                refine lv_iload_n hx hb d_Mo_others_98 rfl (lv_at hl 1 rfl) ?_
                refine lv_sipush (v := (156 : Int32)) hx hb d_Mo_others_99 (by decide) ?_
                refine lv_icmp_ne (tgt := 124) hx hb d_Mo_others_102 (by decide) (fun c10 => ?_) (fun c10 => ?_)
                · have h := ok_f h c10
                  refine lv_iload_n hx hb d_Mo_others_124 rfl (lv_at hl 1 rfl) ?_
                  refine lv_sipush (v := (157 : Int32)) hx hb d_Mo_others_125 (by decide) ?_
                  refine lv_icmp_ne (tgt := 146) hx hb d_Mo_others_128 (by decide) (fun c11 => ?_) (fun c11 => ?_)
                  · have h := ok_f h c11
                    refine lv_iload_n hx hb d_Mo_others_146 rfl (lv_at hl 1 rfl) ?_
                    refine lv_sipush (v := (168 : Int32)) hx hb d_Mo_others_147 (by decide) ?_
                    refine lv_icmp_eq (tgt := 160) hx hb d_Mo_others_150 (by decide) (fun c12 => ?_) (fun c12 => ?_)
                    · have h := ok_t h c12
                      exact w_Mo_others_160 o C0 q x2 h H locs ls hw (lv_sub hl [0, 2] rfl)
                    · have h := ok_f h c12
                      refine lv_iload_n hx hb d_Mo_others_153 rfl (lv_at hl 1 rfl) ?_
                      refine lv_sipush (v := (169 : Int32)) hx hb d_Mo_others_154 (by decide) ?_
                      refine lv_icmp_ne (tgt := 168) hx hb d_Mo_others_157 (by decide) (fun c14 => ?_) (fun c14 => ?_)
                      · have h := ok_f h c14
                        refine lv_iload_n hx hb d_Mo_others_168 rfl (lv_at hl 1 rfl) ?_
                        refine lv_sipush (v := (194 : Int32)) hx hb d_Mo_others_169 (by decide) ?_
                        refine lv_icmp_eq (tgt := 182) hx hb d_Mo_others_172 (by decide) (fun c15 => ?_) (fun c15 => ?_)
                        · have h := ok_t h c15
                          exact w_Mo_others_182 o C0 q x1 h H locs ls hw (lv_sub hl [0, 1] rfl)
                        · have h := ok_f h c15
                          refine lv_iload_n hx hb d_Mo_others_175 rfl (lv_at hl 1 rfl) ?_
                          refine lv_sipush (v := (195 : Int32)) hx hb d_Mo_others_176 (by decide) ?_
                          refine lv_icmp_ne (tgt := 190) hx hb d_Mo_others_179 (by decide) (fun c17 => ?_) (fun c17 => ?_)
                          · have h := ok_f h c17
                            refine lv_iload_n hx hb d_Mo_others_190 rfl (lv_at hl 1 rfl) ?_
                            refine lv_sipush (v := (198 : Int32)) hx hb d_Mo_others_191 (by decide) ?_
                            refine lv_icmp_eq (tgt := 204) hx hb d_Mo_others_194 (by decide) (fun c18 => ?_) (fun c18 => ?_)
                            · have h := ok_t h c18
                              exact w_Mo_others_204 o C0 q x2 h H locs ls hw (lv_sub hl [0, 2] rfl)
                            · have h := ok_f h c18
                              refine lv_iload_n hx hb d_Mo_others_197 rfl (lv_at hl 1 rfl) ?_
                              refine lv_sipush (v := (199 : Int32)) hx hb d_Mo_others_198 (by decide) ?_
                              refine lv_icmp_ne (tgt := 212) hx hb d_Mo_others_201 (by decide) (fun c20 => ?_) (fun c20 => ?_)
                              · have h := ok_f h c20
                                refine lv_iload_n hx hb d_Mo_others_212 rfl (lv_at hl 1 rfl) ?_
                                refine lv_sipush (v := (201 : Int32)) hx hb d_Mo_others_213 (by decide) ?_
                                refine lv_icmp_ne (tgt := 226) hx hb d_Mo_others_216 (by decide) (fun c21 => ?_) (fun c21 => ?_)
                                · have h := ok_f h c21
                                  refine lv_iload_n hx hb d_Mo_others_226 rfl (lv_at hl 1 rfl) ?_
                                  refine lv_sipush (v := (232 : Int32)) hx hb d_Mo_others_227 (by decide) ?_
                                  refine lv_icmp_eq (tgt := 247) hx hb d_Mo_others_230 (by decide) (fun c22 => ?_) (fun c22 => ?_)
                                  · have h := ok_t h c22
                                    exact w_Mo_others_247 o C0 q x1 h H locs ls hw (lv_sub hl [0, 1] rfl)
                                  · have h := ok_f h c22
                                    refine lv_iload_n hx hb d_Mo_others_233 rfl (lv_at hl 1 rfl) ?_
                                    refine lv_sipush (v := (233 : Int32)) hx hb d_Mo_others_234 (by decide) ?_
                                    refine lv_icmp_eq (tgt := 247) hx hb d_Mo_others_237 (by decide) (fun c24 => ?_) (fun c24 => ?_)
                                    · have h := ok_t h c24
                                      exact w_Mo_others_247 o C0 q x1 h H locs ls hw (lv_sub hl [0, 1] rfl)
                                    · have h := ok_f h c24
                                      refine lv_iload_n hx hb d_Mo_others_240 rfl (lv_at hl 1 rfl) ?_
                                      refine lv_sipush (v := (235 : Int32)) hx hb d_Mo_others_241 (by decide) ?_
                                      refine lv_icmp_ne (tgt := 255) hx hb d_Mo_others_244 (by decide) (fun c25 => ?_) (fun c25 => ?_)
                                      · have h := ok_f h c25
                                        refine lv_aload_n hx hb d_Mo_others_255 rfl (lv_at hl 0 rfl) ?_
                                        refine lv_bipush (v := (6 : Int32)) hx hb d_Mo_others_256 (by decide) ?_
                                        obtain ⟨r26, er26, h⟩ := ok_b h
                                        refine z_vv (rest := []) C0 hw (c_Mo_refuse (6 : Int32) q r26 er26) mw_Mo_refuse ml_Mo_81 0 rfl ⟨Nat.le_of_ble_eq_true rfl, Nat.le_of_ble_eq_true rfl⟩ ⟨Nat.le_refl 0, Nat.le_refl 0⟩ rfl hl.1 rfl (Nat.le_of_ble_eq_true rfl) d_Mo_others_258 (fun H locs hw => ?_)
                                        exact w_Mo_others_261 o C0 r26 h H locs ls hw (lv_sub hl [] rfl)
                                      · have h := ok_t h c25
                                        exact w_Mo_others_247 o C0 q x1 h H locs ls hw (lv_sub hl [0, 1] rfl)
                                · have h := ok_t h c21
                                  refine lv_aload_n hx hb d_Mo_others_219 rfl (lv_at hl 0 rfl) ?_
                                  obtain ⟨r27, er27, h⟩ := ok_b h
                                  refine z_vv (rest := []) C0 hw (c_Mo_leaveFrame q r27 er27) mw_Mo_leaveFrame ml_Mo_329 0 rfl ⟨Nat.le_of_ble_eq_true rfl, Nat.le_of_ble_eq_true rfl⟩ ⟨Nat.le_refl 0, Nat.le_refl 0⟩ rfl hl.1 rfl (Nat.le_of_ble_eq_true rfl) d_Mo_others_220 (fun H locs hw => ?_)
                                  refine lv_goto (tgt := 261) hx hb d_Mo_others_223 (by decide) ?_
                                  exact w_Mo_others_261 o C0 r27 h H locs ls hw (lv_sub hl [] rfl)
                              · have h := ok_t h c20
                                exact w_Mo_others_204 o C0 q x2 h H locs ls hw (lv_sub hl [0, 2] rfl)
                          · have h := ok_t h c17
                            exact w_Mo_others_182 o C0 q x1 h H locs ls hw (lv_sub hl [0, 1] rfl)
                      · have h := ok_t h c14
                        exact w_Mo_others_160 o C0 q x2 h H locs ls hw (lv_sub hl [0, 2] rfl)
                  · have h := ok_t h c11
                    refine lv_aload_n hx hb d_Mo_others_131 rfl (lv_at hl 0 rfl) ?_
                    refine lv_aload_n hx hb d_Mo_others_132 rfl (lv_at hl 0 rfl) ?_
                    refine lv_aload_n hx hb d_Mo_others_133 rfl (lv_at hl 0 rfl) ?_
                    obtain ⟨r28, er28, h⟩ := ok_b h
                    refine z_vi (rest := [.ref (ad 0), .ref (ad 0)]) C0 hw (c_Mo_stackSize q r28 er28) mw_Mo_stackSize ml_Mo_307 0 rfl ⟨Nat.le_of_ble_eq_true rfl, Nat.le_of_ble_eq_true rfl⟩ ⟨Nat.le_refl 0, Nat.le_refl 0⟩ rfl hl.1 rfl (Nat.le_of_ble_eq_true rfl) d_Mo_others_134 (fun H locs hw => ?_)
                    obtain ⟨r29, er29, h⟩ := ok_b h
                    refine z_vl (rest := [.ref (ad 0)]) C0 hw (c_Mo_pop r28 q r29 er29) mw_Mo_pop ml_Mo_313 0 rfl ⟨Nat.le_of_ble_eq_true rfl, Nat.le_of_ble_eq_true rfl⟩ ⟨Nat.le_refl 0, Nat.le_refl 0⟩ rfl hl.1 rfl (Nat.le_of_ble_eq_true rfl) d_Mo_others_137 (fun H locs hw => ?_)
                    obtain ⟨r30, er30, h⟩ := ok_b h
                    refine z_vv (rest := []) C0 hw (c_Mo_setFlags r29.1 r29.2 r30 er30) mw_Mo_setFlags ml_Mo_316 0 rfl ⟨Nat.le_of_ble_eq_true rfl, Nat.le_of_ble_eq_true rfl⟩ ⟨Nat.le_refl 0, Nat.le_refl 0⟩ rfl hl.1 rfl (Nat.le_of_ble_eq_true rfl) d_Mo_others_140 (fun H locs hw => ?_)
                    refine lv_goto (tgt := 261) hx hb d_Mo_others_143 (by decide) ?_
                    exact w_Mo_others_261 o C0 r30 h H locs ls hw (lv_sub hl [] rfl)
                · have h := ok_t h c10
                  refine lv_aload_n hx hb d_Mo_others_105 rfl (lv_at hl 0 rfl) ?_
                  refine lv_aload_n hx hb d_Mo_others_106 rfl (lv_at hl 0 rfl) ?_
                  obtain ⟨r31, er31, h⟩ := ok_b h
                  refine z_vl (rest := [.ref (ad 0)]) C0 hw (c_Mo_flags q r31 er31) mw_Mo_flags ml_Mo_304 0 rfl ⟨Nat.le_of_ble_eq_true rfl, Nat.le_of_ble_eq_true rfl⟩ ⟨Nat.le_refl 0, Nat.le_refl 0⟩ rfl hl.1 rfl (Nat.le_of_ble_eq_true rfl) d_Mo_others_107 (fun H locs hw => ?_)
                  refine lv_ldc2 (own := z_RMo) hx hb hown (hts _ kl_Mo_73) d_Mo_others_110 ?_
                  refine lv_lor hx hb d_Mo_others_113 ?_
                  refine lv_aload_n hx hb d_Mo_others_114 rfl (lv_at hl 0 rfl) ?_
                  obtain ⟨r32, er32, h⟩ := ok_b h
                  refine z_vi (rest := [.long (r31 ||| (2 : Int64)), .ref (ad 0)]) C0 hw (c_Mo_stackSize q r32 er32) mw_Mo_stackSize ml_Mo_307 0 rfl ⟨Nat.le_of_ble_eq_true rfl, Nat.le_of_ble_eq_true rfl⟩ ⟨Nat.le_refl 0, Nat.le_refl 0⟩ rfl hl.1 rfl (Nat.le_of_ble_eq_true rfl) d_Mo_others_115 (fun H locs hw => ?_)
                  obtain ⟨r33, er33, h⟩ := ok_b h
                  refine z_vv (rest := []) C0 hw (c_Mo_push (r31 ||| (2 : Int64)) r32 q r33 er33) mw_Mo_push ml_Mo_310 0 rfl ⟨Nat.le_of_ble_eq_true rfl, Nat.le_of_ble_eq_true rfl⟩ ⟨Nat.le_refl 0, Nat.le_refl 0⟩ rfl hl.1 rfl (Nat.le_of_ble_eq_true rfl) d_Mo_others_118 (fun H locs hw => ?_)
                  refine lv_goto (tgt := 261) hx hb d_Mo_others_121 (by decide) ?_
                  exact w_Mo_others_261 o C0 r33 h H locs ls hw (lv_sub hl [] rfl)
              · have h := ok_t h c9
                refine lv_aload_n hx hb d_Mo_others_91 rfl (lv_at hl 0 rfl) ?_
                obtain ⟨r34, er34, h⟩ := ok_b h
                refine z_vv (rest := []) C0 hw (c_Mo_popOperand q r34 er34) mw_Mo_popOperand ml_Mo_301 0 rfl ⟨Nat.le_of_ble_eq_true rfl, Nat.le_of_ble_eq_true rfl⟩ ⟨Nat.le_refl 0, Nat.le_refl 0⟩ rfl hl.1 rfl (Nat.le_of_ble_eq_true rfl) d_Mo_others_92 (fun H locs hw => ?_)
                refine lv_goto (tgt := 261) hx hb d_Mo_others_95 (by decide) ?_
                exact w_Mo_others_261 o C0 r34 h H locs ls hw (lv_sub hl [] rfl)
            · have h := ok_t h c8
              refine lv_aload_n hx hb d_Mo_others_77 rfl (lv_at hl 0 rfl) ?_
              obtain ⟨r35, er35, h⟩ := ok_b h
              refine z_vv (rest := []) C0 hw (c_Mo_address q r35 er35) mw_Mo_address ml_Mo_298 0 rfl ⟨Nat.le_of_ble_eq_true rfl, Nat.le_of_ble_eq_true rfl⟩ ⟨Nat.le_refl 0, Nat.le_refl 0⟩ rfl hl.1 rfl (Nat.le_of_ble_eq_true rfl) d_Mo_others_78 (fun H locs hw => ?_)
              refine lv_goto (tgt := 261) hx hb d_Mo_others_81 (by decide) ?_
              exact w_Mo_others_261 o C0 r35 h H locs ls hw (lv_sub hl [] rfl)
          · have h := ok_t h c7
            exact w_Mo_others_62 o C0 q x1 h H locs ls hw (lv_sub hl [0, 1] rfl)
      · have h := ok_t h c4
        exact w_Mo_others_42 o C0 q x1 h H locs ls hw (lv_sub hl [0, 1] rfl)
  · have h := ok_t h c1
    refine lv_aload_n hx hb d_Mo_others_6 rfl (lv_at hl 0 rfl) ?_
    refine lv_aload_n hx hb d_Mo_others_7 rfl (lv_at hl 0 rfl) ?_
    obtain ⟨r36, er36, h⟩ := ok_b h
    refine z_vi (rest := [.ref (ad 0)]) C0 hw (c_Mo_wide q r36 er36) mw_Mo_wide ml_Mo_235 0 rfl ⟨Nat.le_of_ble_eq_true rfl, Nat.le_of_ble_eq_true rfl⟩ ⟨Nat.le_refl 0, Nat.le_refl 0⟩ rfl hl.1 rfl (Nat.le_of_ble_eq_true rfl) d_Mo_others_8 (fun H locs hw => ?_)
    refine lv_aload_n hx hb d_Mo_others_11 rfl (lv_at hl 0 rfl) ?_
    obtain ⟨r37, er37, h⟩ := ok_b h
    refine z_vi (rest := [.int r36, .ref (ad 0)]) C0 hw (c_Mo_wide q r37 er37) mw_Mo_wide ml_Mo_235 0 rfl ⟨Nat.le_of_ble_eq_true rfl, Nat.le_of_ble_eq_true rfl⟩ ⟨Nat.le_refl 0, Nat.le_refl 0⟩ rfl hl.1 rfl (Nat.le_of_ble_eq_true rfl) d_Mo_others_12 (fun H locs hw => ?_)
    refine lv_iconst (v := (2 : Int32)) hx hb d_Mo_others_15 (by decide) ?_
    refine lv_icmp_ne (tgt := 23) hx hb d_Mo_others_16 (by decide) (fun c38 => ?_) (fun c38 => ?_)
    · have h := ok_f h c38
      refine lv_iconst (v := (4 : Int32)) hx hb d_Mo_others_23 (by decide) ?_
      exact w_Mo_others_24 o C0 q r36 (4 : Int32) h H locs ls hw (lv_sub hl [] rfl)
    · have h := ok_t h c38
      refine lv_iconst (v := (2 : Int32)) hx hb d_Mo_others_19 (by decide) ?_
      refine lv_goto (tgt := 24) hx hb d_Mo_others_20 (by decide) ?_
      exact w_Mo_others_24 o C0 q r36 (2 : Int32) h H locs ls hw (lv_sub hl [] rfl)
def k_Mo_loop_131 (q : z_Sg) : Option z_Sg :=
  some q
def k_Mo_loop_106 (x2 : Int64) (t0 : Int32) (q : z_Sg) : Option z_Sg :=
  if t0 = 0 then (k_Mo_loop_131 q) else (if (z_gI q 4) = (-1 : Int32) then ((f_Mo_jump ((z_gL q 7) + x2) q).bind (fun r9 => k_Mo_loop_131 r9)) else (k_Mo_loop_131 q))
def k_Mo_loop_105 (x2 : Int64) (q : z_Sg) : Option z_Sg :=
  k_Mo_loop_106 x2 (0 : Int32) q
def k_Mo_loop_101 (x2 : Int64) (q : z_Sg) : Option z_Sg :=
  k_Mo_loop_106 x2 (1 : Int32) q
def k_Mo_loop_98 (x2 : Int64) (t0 : Int32) (t1 : Int32) (q : z_Sg) : Option z_Sg :=
  if t0 = t1 then (k_Mo_loop_101 x2 q) else (k_Mo_loop_105 x2 q)
def k_Mo_loop_36 (x1 : Int32) (x2 : Int64) (q : z_Sg) : Option z_Sg :=
  if x1 = (227 : Int32) then (if z_bad (1 : Int32) 16 then none else (if (z_gM q 0 (1 : Int32).toNatClampNeg) = (0 : Int64) then (k_Mo_loop_106 x2 (1 : Int32) q) else (k_Mo_loop_106 x2 (0 : Int32) q))) else (if z_bad (1 : Int32) 16 then none else (if (z_gM q 0 (1 : Int32).toNatClampNeg) = (0 : Int64) then (k_Mo_loop_105 x2 q) else (if x1 = (226 : Int32) then (k_Mo_loop_101 x2 q) else (if z_bad (3 : Int32) 7 then none else (if x1 = (225 : Int32) then (k_Mo_loop_98 x2 (z_gN q 1 (3 : Int32).toNatClampNeg) (1 : Int32) q) else (k_Mo_loop_98 x2 (z_gN q 1 (3 : Int32).toNatClampNeg) (0 : Int32) q))))))
def k_Mo_loop_13 (x1 : Int32) (q : z_Sg) : Option z_Sg :=
  (f_Mo_number (1 : Int32) q).bind (fun r2 => if x1 = (227 : Int32) then (k_Mo_loop_36 x1 r2.1 r2.2) else (if z_bad (1 : Int32) 16 then none else (if z_bad (1 : Int32) 16 then none else (z_nm (z_sM r2.2 0 (1 : Int32).toNatClampNeg ((z_gM r2.2 0 (1 : Int32).toNatClampNeg) - (1 : Int64))) (fun q18 => k_Mo_loop_36 x1 r2.1 q18)))))
def f_Mo_loop (x1 : Int32) (q : z_Sg) : Option z_Sg :=
  if (z_gI q 16) = 0 then (k_Mo_loop_13 x1 q) else ((f_Mo_refuse (6 : Int32) q).bind (fun r19 => k_Mo_loop_13 x1 r19))
set_option maxHeartbeats 4000000 in
set_option maxRecDepth 100000 in
theorem w_Mo_loop_131 {p : Program} {l : Launch} {e : Env} {s : State} {m : MethodId} {args : Array Value} {below : List Frame} {meth : Method} {c : Code} {D : va_G} {A : Nat → Prop} {ad : Nat → Nat} {ca : Nat → ClassId} (o : z_Sg) (C0 : z_cx z_RMo b_Mo_loop 5 none D (z_Mt ca) A p s m args meth c) (q : z_Sg) (h : k_Mo_loop_131 q = some o) : ∀ (H : Heap) (locs : List Loc) (ls : Array Slot), z_wd D (z_M ad ca q) A s H locs → lv_has ls 5 [] → W p l e (z_rm 7 174) s m args below meth c H locs 0 0 (z_qv below D (z_Mt ca) (z_M ad ca o) A s args) (F0 m 131 ls []) := by
  obtain ⟨hx, hb, hr, hlk, hml, hown, hts, hK, hA⟩ := id C0
  intro H locs ls hw hl
  have ho := Option.some.inj h
  subst ho
  exact z_rtv C0 hw d_Mo_loop_131
set_option maxHeartbeats 4000000 in
set_option maxRecDepth 100000 in
theorem w_Mo_loop_106 {p : Program} {l : Launch} {e : Env} {s : State} {m : MethodId} {args : Array Value} {below : List Frame} {meth : Method} {c : Code} {D : va_G} {A : Nat → Prop} {ad : Nat → Nat} {ca : Nat → ClassId} (o : z_Sg) (C0 : z_cx z_RMo b_Mo_loop 5 none D (z_Mt ca) A p s m args meth c) (q : z_Sg) (x2 : Int64) (t0 : Int32) (h : k_Mo_loop_106 x2 t0 q = some o) : ∀ (H : Heap) (locs : List Loc) (ls : Array Slot), z_wd D (z_M ad ca q) A s H locs → lv_has ls 5 [(0, .ref (ad 0)), (2, .long x2)] → W p l e (z_rm 7 174) s m args below meth c H locs 0 0 (z_qv below D (z_Mt ca) (z_M ad ca o) A s args) (F0 m 106 ls [.int t0]) := by
  obtain ⟨hx, hb, hr, hlk, hml, hown, hts, hK, hA⟩ := id C0
  intro H locs ls hw hl
  refine lv_istore (lv' := [(4, .int t0), (0, .ref (ad 0)), (2, .long x2)]) hx hb d_Mo_loop_106 hl (by decide) rfl (fun ls hl => ?_)
  refine lv_iload hx hb d_Mo_loop_108 (lv_at hl 0 rfl) ?_
  refine lv_if_eq (tgt := 131) hx hb d_Mo_loop_110 (by decide) (fun c7 => ?_) (fun c7 => ?_)
  · have h := ok_t h c7
    exact w_Mo_loop_131 o C0 q h H locs ls hw (lv_sub hl [] rfl)
  · have h := ok_f h c7
    refine lv_aload_n hx hb d_Mo_loop_113 rfl (lv_at hl 1 rfl) ?_
    refine gfM_0_refused C0 hw fl_Mo_28 d_Mo_loop_114 ?_
    refine lv_iconst (v := (-1 : Int32)) hx hb d_Mo_loop_117 (by decide) ?_
    refine lv_icmp_ne (tgt := 131) hx hb d_Mo_loop_118 (by decide) (fun c8 => ?_) (fun c8 => ?_)
    · have h := ok_f h c8
      exact w_Mo_loop_131 o C0 q h H locs ls hw (lv_sub hl [] rfl)
    · have h := ok_t h c8
      refine lv_aload_n hx hb d_Mo_loop_121 rfl (lv_at hl 1 rfl) ?_
      refine lv_aload_n hx hb d_Mo_loop_122 rfl (lv_at hl 1 rfl) ?_
      refine gfM_0_goes C0 hw fl_Mo_173 d_Mo_loop_123 ?_
      refine lv_lload_n hx hb d_Mo_loop_126 rfl (lv_at hl 2 rfl) ?_
      refine lv_ladd hx hb d_Mo_loop_127 ?_
      obtain ⟨r9, er9, h⟩ := ok_b h
      refine z_vv (rest := []) C0 hw (c_Mo_jump ((z_gL q 7) + x2) q r9 er9) mw_Mo_jump ml_Mo_431 0 rfl ⟨Nat.le_of_ble_eq_true rfl, Nat.le_of_ble_eq_true rfl⟩ ⟨Nat.le_refl 0, Nat.le_refl 0⟩ rfl hl.1 rfl (Nat.le_of_ble_eq_true rfl) d_Mo_loop_128 (fun H locs hw => ?_)
      exact w_Mo_loop_131 o C0 r9 h H locs ls hw (lv_sub hl [] rfl)
set_option maxHeartbeats 4000000 in
set_option maxRecDepth 100000 in
theorem w_Mo_loop_105 {p : Program} {l : Launch} {e : Env} {s : State} {m : MethodId} {args : Array Value} {below : List Frame} {meth : Method} {c : Code} {D : va_G} {A : Nat → Prop} {ad : Nat → Nat} {ca : Nat → ClassId} (o : z_Sg) (C0 : z_cx z_RMo b_Mo_loop 5 none D (z_Mt ca) A p s m args meth c) (q : z_Sg) (x2 : Int64) (h : k_Mo_loop_105 x2 q = some o) : ∀ (H : Heap) (locs : List Loc) (ls : Array Slot), z_wd D (z_M ad ca q) A s H locs → lv_has ls 5 [(0, .ref (ad 0)), (2, .long x2)] → W p l e (z_rm 7 174) s m args below meth c H locs 0 0 (z_qv below D (z_Mt ca) (z_M ad ca o) A s args) (F0 m 105 ls []) := by
  obtain ⟨hx, hb, hr, hlk, hml, hown, hts, hK, hA⟩ := id C0
  intro H locs ls hw hl
  refine lv_iconst (v := (0 : Int32)) hx hb d_Mo_loop_105 (by decide) ?_
  exact w_Mo_loop_106 o C0 q x2 (0 : Int32) h H locs ls hw (lv_sub hl [0, 1] rfl)
set_option maxHeartbeats 4000000 in
set_option maxRecDepth 100000 in
theorem w_Mo_loop_101 {p : Program} {l : Launch} {e : Env} {s : State} {m : MethodId} {args : Array Value} {below : List Frame} {meth : Method} {c : Code} {D : va_G} {A : Nat → Prop} {ad : Nat → Nat} {ca : Nat → ClassId} (o : z_Sg) (C0 : z_cx z_RMo b_Mo_loop 5 none D (z_Mt ca) A p s m args meth c) (q : z_Sg) (x2 : Int64) (h : k_Mo_loop_101 x2 q = some o) : ∀ (H : Heap) (locs : List Loc) (ls : Array Slot), z_wd D (z_M ad ca q) A s H locs → lv_has ls 5 [(0, .ref (ad 0)), (2, .long x2)] → W p l e (z_rm 7 174) s m args below meth c H locs 0 0 (z_qv below D (z_Mt ca) (z_M ad ca o) A s args) (F0 m 101 ls []) := by
  obtain ⟨hx, hb, hr, hlk, hml, hown, hts, hK, hA⟩ := id C0
  intro H locs ls hw hl
  refine lv_iconst (v := (1 : Int32)) hx hb d_Mo_loop_101 (by decide) ?_
  refine lv_goto (tgt := 106) hx hb d_Mo_loop_102 (by decide) ?_
  exact w_Mo_loop_106 o C0 q x2 (1 : Int32) h H locs ls hw (lv_sub hl [0, 1] rfl)
set_option maxHeartbeats 4000000 in
set_option maxRecDepth 100000 in
theorem w_Mo_loop_98 {p : Program} {l : Launch} {e : Env} {s : State} {m : MethodId} {args : Array Value} {below : List Frame} {meth : Method} {c : Code} {D : va_G} {A : Nat → Prop} {ad : Nat → Nat} {ca : Nat → ClassId} (o : z_Sg) (C0 : z_cx z_RMo b_Mo_loop 5 none D (z_Mt ca) A p s m args meth c) (q : z_Sg) (x2 : Int64) (t0 : Int32) (t1 : Int32) (h : k_Mo_loop_98 x2 t0 t1 q = some o) : ∀ (H : Heap) (locs : List Loc) (ls : Array Slot), z_wd D (z_M ad ca q) A s H locs → lv_has ls 5 [(0, .ref (ad 0)), (2, .long x2)] → W p l e (z_rm 7 174) s m args below meth c H locs 0 0 (z_qv below D (z_Mt ca) (z_M ad ca o) A s args) (F0 m 98 ls [.int t1, .int t0]) := by
  obtain ⟨hx, hb, hr, hlk, hml, hown, hts, hK, hA⟩ := id C0
  intro H locs ls hw hl
  refine lv_icmp_ne (tgt := 105) hx hb d_Mo_loop_98 (by decide) (fun c13 => ?_) (fun c13 => ?_)
  · have h := ok_f h c13
    exact w_Mo_loop_105 o C0 q x2 h H locs ls hw (lv_sub hl [0, 1] rfl)
  · have h := ok_t h c13
    exact w_Mo_loop_101 o C0 q x2 h H locs ls hw (lv_sub hl [0, 1] rfl)
set_option maxHeartbeats 4000000 in
set_option maxRecDepth 100000 in
theorem w_Mo_loop_36 {p : Program} {l : Launch} {e : Env} {s : State} {m : MethodId} {args : Array Value} {below : List Frame} {meth : Method} {c : Code} {D : va_G} {A : Nat → Prop} {ad : Nat → Nat} {ca : Nat → ClassId} (o : z_Sg) (C0 : z_cx z_RMo b_Mo_loop 5 none D (z_Mt ca) A p s m args meth c) (q : z_Sg) (x1 : Int32) (x2 : Int64) (h : k_Mo_loop_36 x1 x2 q = some o) : ∀ (H : Heap) (locs : List Loc) (ls : Array Slot), z_wd D (z_M ad ca q) A s H locs → lv_has ls 5 [(0, .ref (ad 0)), (1, .int x1), (2, .long x2)] → W p l e (z_rm 7 174) s m args below meth c H locs 0 0 (z_qv below D (z_Mt ca) (z_M ad ca o) A s args) (F0 m 36 ls []) := by
  obtain ⟨hx, hb, hr, hlk, hml, hown, hts, hK, hA⟩ := id C0
  intro H locs ls hw hl
  refine lv_iload_n hx hb d_Mo_loop_36 rfl (lv_at hl 1 rfl) ?_
  refine lv_sipush (v := (227 : Int32)) hx hb d_Mo_loop_37 (by decide) ?_
  refine lv_icmp_ne (tgt := 62) hx hb d_Mo_loop_40 (by decide) (fun c4 => ?_) (fun c4 => ?_)
  · have h := ok_f h c4
    refine lv_aload_n hx hb d_Mo_loop_62 rfl (lv_at hl 0 rfl) ?_
    refine gfM_0_r C0 hw fl_Mo_14 d_Mo_loop_63 ?_
    refine lv_iconst (v := (1 : Int32)) hx hb d_Mo_loop_66 (by decide) ?_
    obtain ⟨b5, h⟩ := ok_g h
    refine alM_2 C0 hw b5 d_Mo_loop_67 ?_
    refine lv_lconst (v := (0 : Int64)) hx hb d_Mo_loop_68 (by decide) ?_
    refine W.lcmp hx hb d_Mo_loop_69 ?_
    refine lv_if_eq (tgt := 105) hx hb d_Mo_loop_70 (by decide) (fun c6 => ?_) (fun c6 => ?_)
    · have h := ok_t h ((lg_cmp_eq _ _).mp c6)
      exact w_Mo_loop_105 o C0 q x2 h H locs ls hw (lv_sub hl [0, 2] rfl)
    · have h := ok_f h (fun z => c6 ((lg_cmp_eq _ _).mpr z))
      refine lv_iload_n hx hb d_Mo_loop_73 rfl (lv_at hl 1 rfl) ?_
      refine lv_sipush (v := (226 : Int32)) hx hb d_Mo_loop_74 (by decide) ?_
      refine lv_icmp_eq (tgt := 101) hx hb d_Mo_loop_77 (by decide) (fun c10 => ?_) (fun c10 => ?_)
      · have h := ok_t h c10
        exact w_Mo_loop_101 o C0 q x2 h H locs ls hw (lv_sub hl [0, 2] rfl)
      · have h := ok_f h c10
        refine lv_aload_n hx hb d_Mo_loop_80 rfl (lv_at hl 0 rfl) ?_
        refine gfM_0_flag C0 hw fl_Mo_21 d_Mo_loop_81 ?_
        refine lv_iconst (v := (3 : Int32)) hx hb d_Mo_loop_84 (by decide) ?_
        obtain ⟨b11, h⟩ := ok_g h
        refine alM_4 C0 hw b11 d_Mo_loop_85 ?_
        refine lv_iload_n hx hb d_Mo_loop_86 rfl (lv_at hl 1 rfl) ?_
        refine lv_sipush (v := (225 : Int32)) hx hb d_Mo_loop_87 (by decide) ?_
        refine lv_icmp_ne (tgt := 97) hx hb d_Mo_loop_90 (by decide) (fun c12 => ?_) (fun c12 => ?_)
        · have h := ok_f h c12
          refine lv_iconst (v := (0 : Int32)) hx hb d_Mo_loop_97 (by decide) ?_
          exact w_Mo_loop_98 o C0 q x2 (z_gN q 1 (3 : Int32).toNatClampNeg) (0 : Int32) h H locs ls hw (lv_sub hl [0, 2] rfl)
        · have h := ok_t h c12
          refine lv_iconst (v := (1 : Int32)) hx hb d_Mo_loop_93 (by decide) ?_
          refine lv_goto (tgt := 98) hx hb d_Mo_loop_94 (by decide) ?_
          exact w_Mo_loop_98 o C0 q x2 (z_gN q 1 (3 : Int32).toNatClampNeg) (1 : Int32) h H locs ls hw (lv_sub hl [0, 2] rfl)
  · have h := ok_t h c4
    refine lv_aload_n hx hb d_Mo_loop_43 rfl (lv_at hl 0 rfl) ?_
    refine gfM_0_r C0 hw fl_Mo_14 d_Mo_loop_44 ?_
    refine lv_iconst (v := (1 : Int32)) hx hb d_Mo_loop_47 (by decide) ?_
    obtain ⟨b14, h⟩ := ok_g h
    refine alM_2 C0 hw b14 d_Mo_loop_48 ?_
    refine lv_lconst (v := (0 : Int64)) hx hb d_Mo_loop_49 (by decide) ?_
    refine W.lcmp hx hb d_Mo_loop_50 ?_
    refine lv_if_ne (tgt := 58) hx hb d_Mo_loop_51 (by decide) (fun c15 => ?_) (fun c15 => ?_)
    · have h := ok_f h (fun z => c15 ((lg_cmp_eq _ _).mpr z))
      refine lv_iconst (v := (0 : Int32)) hx hb d_Mo_loop_58 (by decide) ?_
      refine lv_goto (tgt := 106) hx hb d_Mo_loop_59 (by decide) ?_
      exact w_Mo_loop_106 o C0 q x2 (0 : Int32) h H locs ls hw (lv_sub hl [0, 2] rfl)
    · have h := ok_t h ((lg_cmp_eq _ _).mp c15)
      refine lv_iconst (v := (1 : Int32)) hx hb d_Mo_loop_54 (by decide) ?_
      refine lv_goto (tgt := 106) hx hb d_Mo_loop_55 (by decide) ?_
      exact w_Mo_loop_106 o C0 q x2 (1 : Int32) h H locs ls hw (lv_sub hl [0, 2] rfl)
set_option maxHeartbeats 4000000 in
set_option maxRecDepth 100000 in
theorem w_Mo_loop_13 {p : Program} {l : Launch} {e : Env} {s : State} {m : MethodId} {args : Array Value} {below : List Frame} {meth : Method} {c : Code} {D : va_G} {A : Nat → Prop} {ad : Nat → Nat} {ca : Nat → ClassId} (o : z_Sg) (C0 : z_cx z_RMo b_Mo_loop 5 none D (z_Mt ca) A p s m args meth c) (q : z_Sg) (x1 : Int32) (h : k_Mo_loop_13 x1 q = some o) : ∀ (H : Heap) (locs : List Loc) (ls : Array Slot), z_wd D (z_M ad ca q) A s H locs → lv_has ls 5 [(0, .ref (ad 0)), (1, .int x1)] → W p l e (z_rm 7 174) s m args below meth c H locs 0 0 (z_qv below D (z_Mt ca) (z_M ad ca o) A s args) (F0 m 13 ls []) := by
  obtain ⟨hx, hb, hr, hlk, hml, hown, hts, hK, hA⟩ := id C0
  intro H locs ls hw hl
  refine lv_aload_n hx hb d_Mo_loop_13 rfl (lv_at hl 0 rfl) ?_
  refine lv_iconst (v := (1 : Int32)) hx hb d_Mo_loop_14 (by decide) ?_
  obtain ⟨r2, er2, h⟩ := ok_b h
  refine z_vl (rest := []) C0 hw (c_Mo_number (1 : Int32) q r2 er2) mw_Mo_number ml_Mo_373 0 rfl ⟨Nat.le_of_ble_eq_true rfl, Nat.le_of_ble_eq_true rfl⟩ ⟨Nat.le_refl 0, Nat.le_refl 0⟩ rfl hl.1 rfl (Nat.le_of_ble_eq_true rfl) d_Mo_loop_15 (fun H locs hw => ?_)
  refine lv_lstore_n (lv' := [(2, .long r2.1), (0, .ref (ad 0)), (1, .int x1)]) hx hb d_Mo_loop_18 rfl hl (by decide) rfl (fun ls hl => ?_)
  refine lv_iload_n hx hb d_Mo_loop_19 rfl (lv_at hl 2 rfl) ?_
  refine lv_sipush (v := (227 : Int32)) hx hb d_Mo_loop_20 (by decide) ?_
  refine lv_icmp_eq (tgt := 36) hx hb d_Mo_loop_23 (by decide) (fun c3 => ?_) (fun c3 => ?_)
  · have h := ok_t h c3
    exact w_Mo_loop_36 o C0 r2.2 x1 r2.1 h H locs ls hw (lv_sub hl [1, 2, 0] rfl)
  · have h := ok_f h c3
    refine lv_aload_n hx hb d_Mo_loop_26 rfl (lv_at hl 1 rfl) ?_
    refine gfM_0_r C0 hw fl_Mo_14 d_Mo_loop_27 ?_
    refine lv_iconst (v := (1 : Int32)) hx hb d_Mo_loop_30 (by decide) ?_
    refine lv_dup2_11 hx hb d_Mo_loop_31 rfl rfl ?_
    obtain ⟨b16, h⟩ := ok_g h
    refine alM_2 C0 hw b16 d_Mo_loop_32 ?_
    refine lv_lconst (v := (1 : Int64)) hx hb d_Mo_loop_33 (by decide) ?_
    refine lv_lsub hx hb d_Mo_loop_34 ?_
    obtain ⟨b17, h⟩ := ok_g h
    refine asM_2 C0 hw b17 d_Mo_loop_35 (fun H locs hw => ?_)
    obtain ⟨q18, eq18, h⟩ := ok_n h
    rw [← eq18] at hw
    exact w_Mo_loop_36 o C0 q18 x1 r2.1 h H locs ls hw (lv_sub hl [1, 2, 0] rfl)
set_option maxHeartbeats 4000000 in
set_option maxRecDepth 100000 in
theorem c_Mo_loop {l : Launch} {D : va_G} {ad : Nat → Nat} {ca : Nat → ClassId} (x1 : Int32) (q : z_Sg) (o : z_Sg) (h : f_Mo_loop x1 q = some o) : z_cv l y_Mo_loop b_Mo_loop 5 none 7 174 D (z_Mt ca) (z_M ad ca q) (z_M ad ca o) [.ref (ad 0), .int x1] := by
  refine z_cv_of (own := z_RMo) (by decide) rfl ?_
  intro p e s m below meth c A C0 hw
  obtain ⟨hx, hb, hr, hlk, hml, hown, hts, hK, hA⟩ := id C0
  generalize hH : s.heap = H at hw ⊢
  generalize hlo : ([] : List Loc) = locs at hw ⊢
  refine z_entry (lv := [(0, .ref (ad 0)), (1, .int x1)]) (Nat.le_of_ble_eq_true rfl) rfl (fun ls hl => ?_)
  unfold f_Mo_loop at h
  refine lv_aload_n hx hb d_Mo_loop_0 rfl (lv_at hl 0 rfl) ?_
  refine gfM_0_small C0 hw fl_Mo_127 d_Mo_loop_1 ?_
  refine lv_if_eq (tgt := 13) hx hb d_Mo_loop_4 (by decide) (fun c1 => ?_) (fun c1 => ?_)
  · have h := ok_t h c1
    exact w_Mo_loop_13 o C0 q x1 h H locs ls hw (lv_sub hl [0, 1] rfl)
  · have h := ok_f h c1
    refine lv_aload_n hx hb d_Mo_loop_7 rfl (lv_at hl 0 rfl) ?_
    refine lv_bipush (v := (6 : Int32)) hx hb d_Mo_loop_8 (by decide) ?_
    obtain ⟨r19, er19, h⟩ := ok_b h
    refine z_vv (rest := []) C0 hw (c_Mo_refuse (6 : Int32) q r19 er19) mw_Mo_refuse ml_Mo_81 0 rfl ⟨Nat.le_of_ble_eq_true rfl, Nat.le_of_ble_eq_true rfl⟩ ⟨Nat.le_refl 0, Nat.le_refl 0⟩ rfl hl.1 rfl (Nat.le_of_ble_eq_true rfl) d_Mo_loop_10 (fun H locs hw => ?_)
    exact w_Mo_loop_13 o C0 r19 x1 h H locs ls hw (lv_sub hl [0, 1] rfl)
def k_Mo_immediate_15 (x1 : Int32) (t0 : Int32) (q : z_Sg) : Option z_Sg :=
  (f_Mo_number t0 q).bind (fun r3 => (f_Mo_plus (1 : Int32) r3.2).bind (fun r4 => (f_Mo_put8 ((x1 - x1 / (8 : Int32) * (8 : Int32)) + r4) t0 r3.1 r3.2).bind (fun r5 => some r5)))
def f_Mo_immediate (x1 : Int32) (q : z_Sg) : Option z_Sg :=
  if (184 : Int32) ≤ x1 then ((f_Mo_wide q).bind (fun r2 => k_Mo_immediate_15 x1 r2 q)) else (k_Mo_immediate_15 x1 (1 : Int32) q)
set_option maxHeartbeats 4000000 in
set_option maxRecDepth 100000 in
theorem w_Mo_immediate_15 {p : Program} {l : Launch} {e : Env} {s : State} {m : MethodId} {args : Array Value} {below : List Frame} {meth : Method} {c : Code} {D : va_G} {A : Nat → Prop} {ad : Nat → Nat} {ca : Nat → ClassId} (o : z_Sg) (C0 : z_cx z_RMo b_Mo_immediate 5 none D (z_Mt ca) A p s m args meth c) (q : z_Sg) (x1 : Int32) (t0 : Int32) (h : k_Mo_immediate_15 x1 t0 q = some o) : ∀ (H : Heap) (locs : List Loc) (ls : Array Slot), z_wd D (z_M ad ca q) A s H locs → lv_has ls 5 [(0, .ref (ad 0)), (1, .int x1)] → W p l e (z_rm 7 174) s m args below meth c H locs 0 0 (z_qv below D (z_Mt ca) (z_M ad ca o) A s args) (F0 m 15 ls [.int t0]) := by
  obtain ⟨hx, hb, hr, hlk, hml, hown, hts, hK, hA⟩ := id C0
  intro H locs ls hw hl
  refine lv_istore_n (lv' := [(2, .int t0), (0, .ref (ad 0)), (1, .int x1)]) hx hb d_Mo_immediate_15 rfl hl (by decide) rfl (fun ls hl => ?_)
  refine lv_aload_n hx hb d_Mo_immediate_16 rfl (lv_at hl 1 rfl) ?_
  refine lv_iload_n hx hb d_Mo_immediate_17 rfl (lv_at hl 0 rfl) ?_
  obtain ⟨r3, er3, h⟩ := ok_b h
  refine z_vl (rest := []) C0 hw (c_Mo_number t0 q r3 er3) mw_Mo_number ml_Mo_373 0 rfl ⟨Nat.le_of_ble_eq_true rfl, Nat.le_of_ble_eq_true rfl⟩ ⟨Nat.le_refl 0, Nat.le_refl 0⟩ rfl hl.1 rfl (Nat.le_of_ble_eq_true rfl) d_Mo_immediate_18 (fun H locs hw => ?_)
  refine lv_lstore_n (lv' := [(3, .long r3.1), (2, .int t0), (0, .ref (ad 0)), (1, .int x1)]) hx hb d_Mo_immediate_21 rfl hl (by decide) rfl (fun ls hl => ?_)
  refine lv_aload_n hx hb d_Mo_immediate_22 rfl (lv_at hl 2 rfl) ?_
  refine lv_iload_n hx hb d_Mo_immediate_23 rfl (lv_at hl 3 rfl) ?_
  refine lv_bipush (v := (8 : Int32)) hx hb d_Mo_immediate_24 (by decide) ?_
  refine lv_irem hx hb d_Mo_immediate_26 (by decide) ?_
  refine lv_aload_n hx hb d_Mo_immediate_27 rfl (lv_at hl 2 rfl) ?_
  refine lv_iconst (v := (1 : Int32)) hx hb d_Mo_immediate_28 (by decide) ?_
  obtain ⟨r4, er4, h⟩ := ok_b h
  refine z_vi (rest := [.int (x1 - x1 / (8 : Int32) * (8 : Int32)), .ref (ad 0)]) C0 hw (c_Mo_plus (1 : Int32) r3.2 r4 er4) mw_Mo_plus ml_Mo_157 0 rfl ⟨Nat.le_of_ble_eq_true rfl, Nat.le_of_ble_eq_true rfl⟩ ⟨Nat.le_refl 0, Nat.le_refl 0⟩ rfl hl.1 rfl (Nat.le_of_ble_eq_true rfl) d_Mo_immediate_29 (fun H locs hw => ?_)
  refine lv_iadd hx hb d_Mo_immediate_32 ?_
  refine lv_iload_n hx hb d_Mo_immediate_33 rfl (lv_at hl 1 rfl) ?_
  refine lv_lload_n hx hb d_Mo_immediate_34 rfl (lv_at hl 0 rfl) ?_
  obtain ⟨r5, er5, h⟩ := ok_b h
  refine z_vv (rest := []) C0 hw (c_Mo_put8 ((x1 - x1 / (8 : Int32) * (8 : Int32)) + r4) t0 r3.1 r3.2 r5 er5) mw_Mo_put8 ml_Mo_189 0 rfl ⟨Nat.le_of_ble_eq_true rfl, Nat.le_of_ble_eq_true rfl⟩ ⟨Nat.le_refl 0, Nat.le_refl 0⟩ rfl hl.1 rfl (Nat.le_of_ble_eq_true rfl) d_Mo_immediate_35 (fun H locs hw => ?_)
  have ho := Option.some.inj h
  subst ho
  exact z_rtv C0 hw d_Mo_immediate_38
set_option maxHeartbeats 4000000 in
set_option maxRecDepth 100000 in
theorem c_Mo_immediate {l : Launch} {D : va_G} {ad : Nat → Nat} {ca : Nat → ClassId} (x1 : Int32) (q : z_Sg) (o : z_Sg) (h : f_Mo_immediate x1 q = some o) : z_cv l y_Mo_immediate b_Mo_immediate 5 none 7 174 D (z_Mt ca) (z_M ad ca q) (z_M ad ca o) [.ref (ad 0), .int x1] := by
  refine z_cv_of (own := z_RMo) (by decide) rfl ?_
  intro p e s m below meth c A C0 hw
  obtain ⟨hx, hb, hr, hlk, hml, hown, hts, hK, hA⟩ := id C0
  generalize hH : s.heap = H at hw ⊢
  generalize hlo : ([] : List Loc) = locs at hw ⊢
  refine z_entry (lv := [(0, .ref (ad 0)), (1, .int x1)]) (Nat.le_of_ble_eq_true rfl) rfl (fun ls hl => ?_)
  unfold f_Mo_immediate at h
  refine lv_iload_n hx hb d_Mo_immediate_0 rfl (lv_at hl 1 rfl) ?_
  refine lv_sipush (v := (184 : Int32)) hx hb d_Mo_immediate_1 (by decide) ?_
  refine lv_icmp_ge (tgt := 11) hx hb d_Mo_immediate_4 (by decide) (fun c1 => ?_) (fun c1 => ?_)
  · have h := ok_t h c1
    refine lv_aload_n hx hb d_Mo_immediate_11 rfl (lv_at hl 0 rfl) ?_
    obtain ⟨r2, er2, h⟩ := ok_b h
    refine z_vi (rest := []) C0 hw (c_Mo_wide q r2 er2) mw_Mo_wide ml_Mo_235 0 rfl ⟨Nat.le_of_ble_eq_true rfl, Nat.le_of_ble_eq_true rfl⟩ ⟨Nat.le_refl 0, Nat.le_refl 0⟩ rfl hl.1 rfl (Nat.le_of_ble_eq_true rfl) d_Mo_immediate_12 (fun H locs hw => ?_)
    exact w_Mo_immediate_15 o C0 q x1 r2 h H locs ls hw (lv_sub hl [0, 1] rfl)
  · have h := ok_f h c1
    refine lv_iconst (v := (1 : Int32)) hx hb d_Mo_immediate_7 (by decide) ?_
    refine lv_goto (tgt := 15) hx hb d_Mo_immediate_8 (by decide) ?_
    exact w_Mo_immediate_15 o C0 q x1 (1 : Int32) h H locs ls hw (lv_sub hl [0, 1] rfl)
