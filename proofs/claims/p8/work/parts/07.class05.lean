def f_Ar_sum (x1 : Int64) (x3 : Int64) (x5 : Int64) (x7 : Int32) (q : z_Sg) : Option (Int64 × z_Sg) :=
  z_nm (((x1 + x3) + x5)) (fun n1 => z_nm (((x1 &&& x3) ||| ((x1 ||| x3) &&& (n1 ^^^ (-1 : Int64))))) (fun n2 => (f_Ar_settleSum n1 n2 ((x1 ^^^ n1) &&& (x3 ^^^ n1)) x7 q).bind (fun r3 => some (r3.1, r3.2))))
set_option maxHeartbeats 4000000 in
set_option maxRecDepth 100000 in
theorem c_Ar_sum {l : Launch} {D : va_G} {ad : Nat → Nat} {ca : Nat → ClassId} (x1 : Int64) (x3 : Int64) (x5 : Int64) (x7 : Int32) (q : z_Sg) (o : (Int64 × z_Sg)) (h : f_Ar_sum x1 x3 x5 x7 q = some o) : z_cl l y_Ar_sum b_Ar_sum 12 (some .long) 2 55 D (z_Kt ca) (z_K ad ca q) (z_K ad ca o.2) [.ref (ad 9), .long x1, .long x3, .long x5, .int x7] o.1 := by
  refine z_cl_of (own := z_RAr) (by decide) rfl ?_
  intro p e s m below meth c A C0 hw
  obtain ⟨hx, hb, hr, hlk, hml, hown, hts, hK, hA⟩ := id C0
  generalize hH : s.heap = H at hw ⊢
  generalize hlo : ([] : List Loc) = locs at hw ⊢
  refine z_entry (lv := [(0, .ref (ad 9)), (1, .long x1), (3, .long x3), (5, .long x5), (7, .int x7)]) (Nat.le_of_ble_eq_true rfl) rfl (fun ls hl => ?_)
  unfold f_Ar_sum at h
  refine lv_lload_n hx hb d_Ar_sum_0 rfl (lv_at hl 1 rfl) ?_
  refine lv_lload_n hx hb d_Ar_sum_1 rfl (lv_at hl 2 rfl) ?_
  refine lv_ladd hx hb d_Ar_sum_2 ?_
  refine lv_lload hx hb d_Ar_sum_3 (lv_at hl 3 rfl) ?_
  refine lv_ladd hx hb d_Ar_sum_5 ?_
  obtain ⟨n1, en1, h⟩ := ok_n h
  refine z_tl en1 ?_
  refine lv_lstore (lv' := [(8, .long n1), (0, .ref (ad 9)), (1, .long x1), (3, .long x3), (5, .long x5), (7, .int x7)]) hx hb d_Ar_sum_6 hl (by decide) rfl (fun ls hl => ?_)
  refine lv_lload_n hx hb d_Ar_sum_8 rfl (lv_at hl 2 rfl) ?_
  refine lv_lload_n hx hb d_Ar_sum_9 rfl (lv_at hl 3 rfl) ?_
  refine lv_land hx hb d_Ar_sum_10 ?_
  refine lv_lload_n hx hb d_Ar_sum_11 rfl (lv_at hl 2 rfl) ?_
  refine lv_lload_n hx hb d_Ar_sum_12 rfl (lv_at hl 3 rfl) ?_
  refine lv_lor hx hb d_Ar_sum_13 ?_
  refine lv_lload hx hb d_Ar_sum_14 (lv_at hl 0 rfl) ?_
  refine lv_ldc2 (own := z_RAr) hx hb hown (hts _ kl_Ar_15) d_Ar_sum_16 ?_
  refine lv_lxor hx hb d_Ar_sum_19 ?_
  refine lv_land hx hb d_Ar_sum_20 ?_
  refine lv_lor hx hb d_Ar_sum_21 ?_
  obtain ⟨n2, en2, h⟩ := ok_n h
  refine z_tl en2 ?_
  refine lv_lstore (lv' := [(10, .long n2), (8, .long n1), (0, .ref (ad 9)), (1, .long x1), (3, .long x3), (5, .long x5), (7, .int x7)]) hx hb d_Ar_sum_22 hl (by decide) rfl (fun ls hl => ?_)
  refine lv_aload_n hx hb d_Ar_sum_24 rfl (lv_at hl 2 rfl) ?_
  refine lv_lload hx hb d_Ar_sum_25 (lv_at hl 1 rfl) ?_
  refine lv_lload hx hb d_Ar_sum_27 (lv_at hl 0 rfl) ?_
  refine lv_lload_n hx hb d_Ar_sum_29 rfl (lv_at hl 3 rfl) ?_
  refine lv_lload hx hb d_Ar_sum_30 (lv_at hl 1 rfl) ?_
  refine lv_lxor hx hb d_Ar_sum_32 ?_
  refine lv_lload_n hx hb d_Ar_sum_33 rfl (lv_at hl 4 rfl) ?_
  refine lv_lload hx hb d_Ar_sum_34 (lv_at hl 1 rfl) ?_
  refine lv_lxor hx hb d_Ar_sum_36 ?_
  refine lv_land hx hb d_Ar_sum_37 ?_
  refine lv_iload hx hb d_Ar_sum_38 (lv_at hl 6 rfl) ?_
  obtain ⟨r3, er3, h⟩ := ok_b h
  refine z_vl (rest := []) C0 hw (c_Ar_settleSum n1 n2 ((x1 ^^^ n1) &&& (x3 ^^^ n1)) x7 q r3 er3) mw_Ar_settleSum ml_Ar_40 9 rfl ⟨Nat.le_of_ble_eq_true rfl, Nat.le_of_ble_eq_true rfl⟩ ⟨Nat.le_refl 0, Nat.le_refl 0⟩ rfl hl.1 rfl (Nat.le_of_ble_eq_true rfl) d_Ar_sum_40 (fun H locs hw => ?_)
  have ho := Option.some.inj h
  subst ho
  exact z_rtl C0 hw d_Ar_sum_43
def f_Tw_changeAndAdd (q : z_Sg) : Option z_Sg :=
  z_nm ((z_gI q 15)) (fun n1 => (f_Op_value q).bind (fun r2 => (f_Op_g n1 q).bind (fun r3 => (f_Ar_sum r2 r3 (0 : Int64) n1 q).bind (fun r4 => (f_Op_putG r2 n1 r4.2).bind (fun r5 => (f_Op_put r4.1 r5).bind (fun r6 => some r6))))))
set_option maxHeartbeats 4000000 in
set_option maxRecDepth 100000 in
theorem c_Tw_changeAndAdd {l : Launch} {D : va_G} {ad : Nat → Nat} {ca : Nat → ClassId} (q : z_Sg) (o : z_Sg) (h : f_Tw_changeAndAdd q = some o) : z_cv l y_Tw_changeAndAdd b_Tw_changeAndAdd 6 none 3 86 D (z_Kt ca) (z_K ad ca q) (z_K ad ca o) [.ref (ad 20)] := by
  refine z_cv_of (own := z_RTw) (by decide) rfl ?_
  intro p e s m below meth c A C0 hw
  obtain ⟨hx, hb, hr, hlk, hml, hown, hts, hK, hA⟩ := id C0
  generalize hH : s.heap = H at hw ⊢
  generalize hlo : ([] : List Loc) = locs at hw ⊢
  refine z_entry (lv := [(0, .ref (ad 20))]) (Nat.le_of_ble_eq_true rfl) rfl (fun ls hl => ?_)
  unfold f_Tw_changeAndAdd at h
  refine lv_aload_n hx hb d_Tw_changeAndAdd_0 rfl (lv_at hl 0 rfl) ?_
  refine gfK_20_operands C0 hw fl_Tw_15 d_Tw_changeAndAdd_1 ?_
  refine gfK_6_bytes C0 hw fl_Tw_95 d_Tw_changeAndAdd_4 ?_
  obtain ⟨n1, en1, h⟩ := ok_n h
  refine z_ti en1 ?_
  refine lv_istore_n (lv' := [(1, .int n1), (0, .ref (ad 20))]) hx hb d_Tw_changeAndAdd_7 rfl hl (by decide) rfl (fun ls hl => ?_)
  refine lv_aload_n hx hb d_Tw_changeAndAdd_8 rfl (lv_at hl 1 rfl) ?_
  refine gfK_20_operands C0 hw fl_Tw_15 d_Tw_changeAndAdd_9 ?_
  obtain ⟨r2, er2, h⟩ := ok_b h
  refine z_vl (rest := []) C0 hw (c_Op_value q r2 er2) mw_Op_value ml_Tw_75 6 rfl ⟨Nat.le_of_ble_eq_true rfl, Nat.le_of_ble_eq_true rfl⟩ ⟨Nat.le_refl 0, Nat.le_refl 0⟩ rfl hl.1 rfl (Nat.le_of_ble_eq_true rfl) d_Tw_changeAndAdd_12 (fun H locs hw => ?_)
  refine lv_lstore_n (lv' := [(2, .long r2), (1, .int n1), (0, .ref (ad 20))]) hx hb d_Tw_changeAndAdd_15 rfl hl (by decide) rfl (fun ls hl => ?_)
  refine lv_aload_n hx hb d_Tw_changeAndAdd_16 rfl (lv_at hl 2 rfl) ?_
  refine gfK_20_arithmetic C0 hw fl_Tw_19 d_Tw_changeAndAdd_17 ?_
  refine lv_lload_n hx hb d_Tw_changeAndAdd_20 rfl (lv_at hl 0 rfl) ?_
  refine lv_aload_n hx hb d_Tw_changeAndAdd_21 rfl (lv_at hl 2 rfl) ?_
  refine gfK_20_operands C0 hw fl_Tw_15 d_Tw_changeAndAdd_22 ?_
  refine lv_iload_n hx hb d_Tw_changeAndAdd_25 rfl (lv_at hl 1 rfl) ?_
  obtain ⟨r3, er3, h⟩ := ok_b h
  refine z_vl (rest := [.long r2, .ref (ad 9)]) C0 hw (c_Op_g n1 q r3 er3) mw_Op_g ml_Tw_60 6 rfl ⟨Nat.le_of_ble_eq_true rfl, Nat.le_of_ble_eq_true rfl⟩ ⟨Nat.le_refl 0, Nat.le_refl 0⟩ rfl hl.1 rfl (Nat.le_of_ble_eq_true rfl) d_Tw_changeAndAdd_26 (fun H locs hw => ?_)
  refine lv_lconst (v := (0 : Int64)) hx hb d_Tw_changeAndAdd_29 (by decide) ?_
  refine lv_iload_n hx hb d_Tw_changeAndAdd_30 rfl (lv_at hl 1 rfl) ?_
  obtain ⟨r4, er4, h⟩ := ok_b h
  refine z_vl (rest := []) C0 hw (c_Ar_sum r2 r3 (0 : Int64) n1 q r4 er4) mw_Ar_sum ml_Tw_146 9 rfl ⟨Nat.le_of_ble_eq_true rfl, Nat.le_of_ble_eq_true rfl⟩ ⟨Nat.le_refl 0, Nat.le_refl 0⟩ rfl hl.1 rfl (Nat.le_of_ble_eq_true rfl) d_Tw_changeAndAdd_31 (fun H locs hw => ?_)
  refine lv_lstore (lv' := [(4, .long r4.1), (2, .long r2), (1, .int n1), (0, .ref (ad 20))]) hx hb d_Tw_changeAndAdd_34 hl (by decide) rfl (fun ls hl => ?_)
  refine lv_aload_n hx hb d_Tw_changeAndAdd_36 rfl (lv_at hl 3 rfl) ?_
  refine gfK_20_operands C0 hw fl_Tw_15 d_Tw_changeAndAdd_37 ?_
  refine lv_lload_n hx hb d_Tw_changeAndAdd_40 rfl (lv_at hl 1 rfl) ?_
  refine lv_iload_n hx hb d_Tw_changeAndAdd_41 rfl (lv_at hl 2 rfl) ?_
  obtain ⟨r5, er5, h⟩ := ok_b h
  refine z_vv (rest := []) C0 hw (c_Op_putG r2 n1 r4.2 r5 er5) mw_Op_putG ml_Tw_88 6 rfl ⟨Nat.le_of_ble_eq_true rfl, Nat.le_of_ble_eq_true rfl⟩ ⟨Nat.le_refl 0, Nat.le_refl 0⟩ rfl hl.1 rfl (Nat.le_of_ble_eq_true rfl) d_Tw_changeAndAdd_42 (fun H locs hw => ?_)
  refine lv_aload_n hx hb d_Tw_changeAndAdd_45 rfl (lv_at hl 3 rfl) ?_
  refine gfK_20_operands C0 hw fl_Tw_15 d_Tw_changeAndAdd_46 ?_
  refine lv_lload hx hb d_Tw_changeAndAdd_49 (lv_at hl 0 rfl) ?_
  obtain ⟨r6, er6, h⟩ := ok_b h
  refine z_vv (rest := []) C0 hw (c_Op_put r4.1 r5 r6 er6) mw_Op_put ml_Tw_43 6 rfl ⟨Nat.le_of_ble_eq_true rfl, Nat.le_of_ble_eq_true rfl⟩ ⟨Nat.le_refl 0, Nat.le_refl 0⟩ rfl hl.1 rfl (Nat.le_of_ble_eq_true rfl) d_Tw_changeAndAdd_51 (fun H locs hw => ?_)
  have ho := Option.some.inj h
  subst ho
  exact z_rtv C0 hw d_Tw_changeAndAdd_54
def k_Tw_executeSingle_320 (q : z_Sg) : Option z_Sg :=
  some q
def k_Tw_executeSingle_148 (x1 : Int32) (x2 : Int32) (q : z_Sg) : Option z_Sg :=
  (f_Op_g x2 q).bind (fun r5 => (f_Tw_useBit ((x1 >>> ((3 : Int32) &&& 31)) &&& (3 : Int32)) r5 q).bind (fun r6 => k_Tw_executeSingle_320 r6))
def k_Tw_executeSingle_233 (q : z_Sg) : Option z_Sg :=
  (f_Tw_compareAndChange q).bind (fun r24 => k_Tw_executeSingle_320 r24)
def k_Tw_executeSingle_240 (x2 : Int32) (q : z_Sg) : Option z_Sg :=
  (f_Op_value q).bind (fun r31 => (f_Op_putG r31 x2 q).bind (fun r32 => k_Tw_executeSingle_320 r32))
def k_Tw_executeSingle_299 (x2 : Int32) (t1 : Int32) (q : z_Sg) : Option z_Sg :=
  (f_Op_value q).bind (fun r41 => (f_Tw_findBit t1 r41 x2 q).bind (fun r42 => k_Tw_executeSingle_320 r42))
def k_Tw_executeSingle_286 (x1 : Int32) (x2 : Int32) (q : z_Sg) : Option z_Sg :=
  if x1 = (188 : Int32) then (k_Tw_executeSingle_299 x2 (1 : Int32) q) else (k_Tw_executeSingle_299 x2 (0 : Int32) q)
def k_Tw_executeSingle_258 (x2 : Int32) (q : z_Sg) : Option z_Sg :=
  (f_Op_value q).bind (fun r45 => (f_Ar_signed r45 (z_gI q 15) q).bind (fun r46 => (f_Op_putG r46 x2 q).bind (fun r47 => k_Tw_executeSingle_320 r47)))
def k_Tw_executeSingle_313 (q : z_Sg) : Option z_Sg :=
  (f_Tw_changeAndAdd q).bind (fun r50 => k_Tw_executeSingle_320 r50)
def f_Tw_executeSingle (x1 : Int32) (q : z_Sg) : Option z_Sg :=
  (f_De_sizeV q).bind (fun r1 => if x1 < (163 : Int32) then (k_Tw_executeSingle_320 q) else (if (193 : Int32) < x1 then (k_Tw_executeSingle_320 q) else (if x1 = (163 : Int32) then (k_Tw_executeSingle_148 x1 r1 q) else (if x1 = (164 : Int32) then (k_Tw_executeSingle_320 q) else (if x1 = (165 : Int32) then (k_Tw_executeSingle_320 q) else (if x1 = (166 : Int32) then (k_Tw_executeSingle_320 q) else (if x1 = (167 : Int32) then (k_Tw_executeSingle_320 q) else (if x1 = (168 : Int32) then (k_Tw_executeSingle_320 q) else (if x1 = (169 : Int32) then (k_Tw_executeSingle_320 q) else (if x1 = (170 : Int32) then (k_Tw_executeSingle_320 q) else (if x1 = (171 : Int32) then (k_Tw_executeSingle_148 x1 r1 q) else (if x1 = (172 : Int32) then (k_Tw_executeSingle_320 q) else (if x1 = (173 : Int32) then (k_Tw_executeSingle_320 q) else (if x1 = (174 : Int32) then (k_Tw_executeSingle_320 q) else (if x1 = (175 : Int32) then ((f_Op_g r1 q).bind (fun r19 => (f_Op_value q).bind (fun r20 => (f_Wi_multiply r19 r20 r1 (1 : Int32) q).bind (fun r21 => (f_Op_putG (z_gL r21 11) r1 r21).bind (fun r22 => k_Tw_executeSingle_320 r22))))) else (if x1 = (176 : Int32) then (k_Tw_executeSingle_233 q) else (if x1 = (177 : Int32) then (k_Tw_executeSingle_233 q) else (if x1 = (178 : Int32) then (k_Tw_executeSingle_320 q) else (if x1 = (179 : Int32) then (k_Tw_executeSingle_148 x1 r1 q) else (if x1 = (180 : Int32) then (k_Tw_executeSingle_320 q) else (if x1 = (181 : Int32) then (k_Tw_executeSingle_320 q) else (if x1 = (182 : Int32) then (k_Tw_executeSingle_240 r1 q) else (if x1 = (183 : Int32) then (k_Tw_executeSingle_240 r1 q) else (if x1 = (184 : Int32) then (k_Tw_executeSingle_320 q) else (if x1 = (185 : Int32) then (k_Tw_executeSingle_320 q) else (if x1 = (186 : Int32) then ((f_Tw_useBit ((z_gI q 13) &&& (3 : Int32)) (z_gL q 9) q).bind (fun r37 => k_Tw_executeSingle_320 r37)) else (if x1 = (187 : Int32) then (k_Tw_executeSingle_148 x1 r1 q) else (if x1 = (188 : Int32) then (k_Tw_executeSingle_286 x1 r1 q) else (if x1 = (189 : Int32) then (k_Tw_executeSingle_286 x1 r1 q) else (if x1 = (190 : Int32) then (k_Tw_executeSingle_258 r1 q) else (if x1 = (191 : Int32) then (k_Tw_executeSingle_258 r1 q) else (if x1 = (192 : Int32) then (k_Tw_executeSingle_313 q) else (k_Tw_executeSingle_313 q)))))))))))))))))))))))))))))))))
set_option maxHeartbeats 4000000 in
set_option maxRecDepth 100000 in
theorem w_Tw_executeSingle_320 {p : Program} {l : Launch} {e : Env} {s : State} {m : MethodId} {args : Array Value} {below : List Frame} {meth : Method} {c : Code} {D : va_G} {A : Nat → Prop} {ad : Nat → Nat} {ca : Nat → ClassId} (o : z_Sg) (C0 : z_cx z_RTw b_Tw_executeSingle 3 none D (z_Kt ca) A p s m args meth c) (q : z_Sg) (h : k_Tw_executeSingle_320 q = some o) : ∀ (H : Heap) (locs : List Loc) (ls : Array Slot), z_wd D (z_K ad ca q) A s H locs → lv_has ls 3 [] → W p l e (z_rm 4 111) s m args below meth c H locs 0 0 (z_qv below D (z_Kt ca) (z_K ad ca o) A s args) (F0 m 320 ls []) := by
  obtain ⟨hx, hb, hr, hlk, hml, hown, hts, hK, hA⟩ := id C0
  intro H locs ls hw hl
  have ho := Option.some.inj h
  subst ho
  exact z_rtv C0 hw d_Tw_executeSingle_320
set_option maxHeartbeats 4000000 in
set_option maxRecDepth 100000 in
theorem w_Tw_executeSingle_148 {p : Program} {l : Launch} {e : Env} {s : State} {m : MethodId} {args : Array Value} {below : List Frame} {meth : Method} {c : Code} {D : va_G} {A : Nat → Prop} {ad : Nat → Nat} {ca : Nat → ClassId} (o : z_Sg) (C0 : z_cx z_RTw b_Tw_executeSingle 3 none D (z_Kt ca) A p s m args meth c) (q : z_Sg) (x1 : Int32) (x2 : Int32) (h : k_Tw_executeSingle_148 x1 x2 q = some o) : ∀ (H : Heap) (locs : List Loc) (ls : Array Slot), z_wd D (z_K ad ca q) A s H locs → lv_has ls 3 [(0, .ref (ad 20)), (1, .int x1), (2, .int x2)] → W p l e (z_rm 4 111) s m args below meth c H locs 0 0 (z_qv below D (z_Kt ca) (z_K ad ca o) A s args) (F0 m 148 ls []) := by
  obtain ⟨hx, hb, hr, hlk, hml, hown, hts, hK, hA⟩ := id C0
  intro H locs ls hw hl
  refine lv_aload_n hx hb d_Tw_executeSingle_148 rfl (lv_at hl 0 rfl) ?_
  refine lv_iload_n hx hb d_Tw_executeSingle_149 rfl (lv_at hl 1 rfl) ?_
  refine lv_iconst (v := (3 : Int32)) hx hb d_Tw_executeSingle_150 (by decide) ?_
  refine lv_ishr hx hb d_Tw_executeSingle_151 ?_
  refine lv_iconst (v := (3 : Int32)) hx hb d_Tw_executeSingle_152 (by decide) ?_
  refine lv_iand hx hb d_Tw_executeSingle_153 ?_
  refine lv_aload_n hx hb d_Tw_executeSingle_154 rfl (lv_at hl 0 rfl) ?_
  refine gfK_20_operands C0 hw fl_Tw_15 d_Tw_executeSingle_155 ?_
  refine lv_iload_n hx hb d_Tw_executeSingle_158 rfl (lv_at hl 2 rfl) ?_
  obtain ⟨r5, er5, h⟩ := ok_b h
  refine z_vl (rest := [.int ((x1 >>> ((3 : Int32) &&& 31)) &&& (3 : Int32)), .ref (ad 20)]) C0 hw (c_Op_g x2 q r5 er5) mw_Op_g ml_Tw_60 6 rfl ⟨Nat.le_of_ble_eq_true rfl, Nat.le_of_ble_eq_true rfl⟩ ⟨Nat.le_refl 0, Nat.le_refl 0⟩ rfl hl.1 rfl (Nat.le_of_ble_eq_true rfl) d_Tw_executeSingle_159 (fun H locs hw => ?_)
  obtain ⟨r6, er6, h⟩ := ok_b h
  refine z_vv (rest := []) C0 hw (c_Tw_useBit ((x1 >>> ((3 : Int32) &&& 31)) &&& (3 : Int32)) r5 q r6 er6) mw_Tw_useBit ml_Tw_64 20 rfl ⟨Nat.le_of_ble_eq_true rfl, Nat.le_of_ble_eq_true rfl⟩ ⟨Nat.le_refl 0, Nat.le_refl 0⟩ rfl hl.1 rfl (Nat.le_of_ble_eq_true rfl) d_Tw_executeSingle_162 (fun H locs hw => ?_)
  refine lv_goto (tgt := 320) hx hb d_Tw_executeSingle_165 (by decide) ?_
  exact w_Tw_executeSingle_320 o C0 r6 h H locs ls hw (lv_sub hl [] rfl)
set_option maxHeartbeats 4000000 in
set_option maxRecDepth 100000 in
theorem w_Tw_executeSingle_233 {p : Program} {l : Launch} {e : Env} {s : State} {m : MethodId} {args : Array Value} {below : List Frame} {meth : Method} {c : Code} {D : va_G} {A : Nat → Prop} {ad : Nat → Nat} {ca : Nat → ClassId} (o : z_Sg) (C0 : z_cx z_RTw b_Tw_executeSingle 3 none D (z_Kt ca) A p s m args meth c) (q : z_Sg) (h : k_Tw_executeSingle_233 q = some o) : ∀ (H : Heap) (locs : List Loc) (ls : Array Slot), z_wd D (z_K ad ca q) A s H locs → lv_has ls 3 [(0, .ref (ad 20))] → W p l e (z_rm 4 111) s m args below meth c H locs 0 0 (z_qv below D (z_Kt ca) (z_K ad ca o) A s args) (F0 m 233 ls []) := by
  obtain ⟨hx, hb, hr, hlk, hml, hown, hts, hK, hA⟩ := id C0
  intro H locs ls hw hl
  refine lv_aload_n hx hb d_Tw_executeSingle_233 rfl (lv_at hl 0 rfl) ?_
  obtain ⟨r24, er24, h⟩ := ok_b h
  refine z_vv (rest := []) C0 hw (c_Tw_compareAndChange q r24 er24) mw_Tw_compareAndChange ml_Tw_92 20 rfl ⟨Nat.le_of_ble_eq_true rfl, Nat.le_of_ble_eq_true rfl⟩ ⟨Nat.le_refl 0, Nat.le_refl 0⟩ rfl hl.1 rfl (Nat.le_of_ble_eq_true rfl) d_Tw_executeSingle_234 (fun H locs hw => ?_)
  refine lv_goto (tgt := 320) hx hb d_Tw_executeSingle_237 (by decide) ?_
  exact w_Tw_executeSingle_320 o C0 r24 h H locs ls hw (lv_sub hl [] rfl)
set_option maxHeartbeats 4000000 in
set_option maxRecDepth 100000 in
theorem w_Tw_executeSingle_240 {p : Program} {l : Launch} {e : Env} {s : State} {m : MethodId} {args : Array Value} {below : List Frame} {meth : Method} {c : Code} {D : va_G} {A : Nat → Prop} {ad : Nat → Nat} {ca : Nat → ClassId} (o : z_Sg) (C0 : z_cx z_RTw b_Tw_executeSingle 3 none D (z_Kt ca) A p s m args meth c) (q : z_Sg) (x2 : Int32) (h : k_Tw_executeSingle_240 x2 q = some o) : ∀ (H : Heap) (locs : List Loc) (ls : Array Slot), z_wd D (z_K ad ca q) A s H locs → lv_has ls 3 [(0, .ref (ad 20)), (2, .int x2)] → W p l e (z_rm 4 111) s m args below meth c H locs 0 0 (z_qv below D (z_Kt ca) (z_K ad ca o) A s args) (F0 m 240 ls []) := by
  obtain ⟨hx, hb, hr, hlk, hml, hown, hts, hK, hA⟩ := id C0
  intro H locs ls hw hl
  refine lv_aload_n hx hb d_Tw_executeSingle_240 rfl (lv_at hl 0 rfl) ?_
  refine gfK_20_operands C0 hw fl_Tw_15 d_Tw_executeSingle_241 ?_
  refine lv_aload_n hx hb d_Tw_executeSingle_244 rfl (lv_at hl 0 rfl) ?_
  refine gfK_20_operands C0 hw fl_Tw_15 d_Tw_executeSingle_245 ?_
  obtain ⟨r31, er31, h⟩ := ok_b h
  refine z_vl (rest := [.ref (ad 6)]) C0 hw (c_Op_value q r31 er31) mw_Op_value ml_Tw_75 6 rfl ⟨Nat.le_of_ble_eq_true rfl, Nat.le_of_ble_eq_true rfl⟩ ⟨Nat.le_refl 0, Nat.le_refl 0⟩ rfl hl.1 rfl (Nat.le_of_ble_eq_true rfl) d_Tw_executeSingle_248 (fun H locs hw => ?_)
  refine lv_iload_n hx hb d_Tw_executeSingle_251 rfl (lv_at hl 1 rfl) ?_
  obtain ⟨r32, er32, h⟩ := ok_b h
  refine z_vv (rest := []) C0 hw (c_Op_putG r31 x2 q r32 er32) mw_Op_putG ml_Tw_88 6 rfl ⟨Nat.le_of_ble_eq_true rfl, Nat.le_of_ble_eq_true rfl⟩ ⟨Nat.le_refl 0, Nat.le_refl 0⟩ rfl hl.1 rfl (Nat.le_of_ble_eq_true rfl) d_Tw_executeSingle_252 (fun H locs hw => ?_)
  refine lv_goto (tgt := 320) hx hb d_Tw_executeSingle_255 (by decide) ?_
  exact w_Tw_executeSingle_320 o C0 r32 h H locs ls hw (lv_sub hl [] rfl)
set_option maxHeartbeats 4000000 in
set_option maxRecDepth 100000 in
theorem w_Tw_executeSingle_299 {p : Program} {l : Launch} {e : Env} {s : State} {m : MethodId} {args : Array Value} {below : List Frame} {meth : Method} {c : Code} {D : va_G} {A : Nat → Prop} {ad : Nat → Nat} {ca : Nat → ClassId} (o : z_Sg) (C0 : z_cx z_RTw b_Tw_executeSingle 3 none D (z_Kt ca) A p s m args meth c) (q : z_Sg) (x2 : Int32) (t1 : Int32) (h : k_Tw_executeSingle_299 x2 t1 q = some o) : ∀ (H : Heap) (locs : List Loc) (ls : Array Slot), z_wd D (z_K ad ca q) A s H locs → lv_has ls 3 [(0, .ref (ad 20)), (2, .int x2)] → W p l e (z_rm 4 111) s m args below meth c H locs 0 0 (z_qv below D (z_Kt ca) (z_K ad ca o) A s args) (F0 m 299 ls [.int t1, .ref (ad 20)]) := by
  obtain ⟨hx, hb, hr, hlk, hml, hown, hts, hK, hA⟩ := id C0
  intro H locs ls hw hl
  refine lv_aload_n hx hb d_Tw_executeSingle_299 rfl (lv_at hl 0 rfl) ?_
  refine gfK_20_operands C0 hw fl_Tw_15 d_Tw_executeSingle_300 ?_
  obtain ⟨r41, er41, h⟩ := ok_b h
  refine z_vl (rest := [.int t1, .ref (ad 20)]) C0 hw (c_Op_value q r41 er41) mw_Op_value ml_Tw_75 6 rfl ⟨Nat.le_of_ble_eq_true rfl, Nat.le_of_ble_eq_true rfl⟩ ⟨Nat.le_refl 0, Nat.le_refl 0⟩ rfl hl.1 rfl (Nat.le_of_ble_eq_true rfl) d_Tw_executeSingle_303 (fun H locs hw => ?_)
  refine lv_iload_n hx hb d_Tw_executeSingle_306 rfl (lv_at hl 1 rfl) ?_
  obtain ⟨r42, er42, h⟩ := ok_b h
  refine z_vv (rest := []) C0 hw (c_Tw_findBit t1 r41 x2 q r42 er42) mw_Tw_findBit ml_Tw_102 20 rfl ⟨Nat.le_of_ble_eq_true rfl, Nat.le_of_ble_eq_true rfl⟩ ⟨Nat.le_refl 0, Nat.le_refl 0⟩ rfl hl.1 rfl (Nat.le_of_ble_eq_true rfl) d_Tw_executeSingle_307 (fun H locs hw => ?_)
  refine lv_goto (tgt := 320) hx hb d_Tw_executeSingle_310 (by decide) ?_
  exact w_Tw_executeSingle_320 o C0 r42 h H locs ls hw (lv_sub hl [] rfl)
set_option maxHeartbeats 4000000 in
set_option maxRecDepth 100000 in
theorem w_Tw_executeSingle_286 {p : Program} {l : Launch} {e : Env} {s : State} {m : MethodId} {args : Array Value} {below : List Frame} {meth : Method} {c : Code} {D : va_G} {A : Nat → Prop} {ad : Nat → Nat} {ca : Nat → ClassId} (o : z_Sg) (C0 : z_cx z_RTw b_Tw_executeSingle 3 none D (z_Kt ca) A p s m args meth c) (q : z_Sg) (x1 : Int32) (x2 : Int32) (h : k_Tw_executeSingle_286 x1 x2 q = some o) : ∀ (H : Heap) (locs : List Loc) (ls : Array Slot), z_wd D (z_K ad ca q) A s H locs → lv_has ls 3 [(0, .ref (ad 20)), (1, .int x1), (2, .int x2)] → W p l e (z_rm 4 111) s m args below meth c H locs 0 0 (z_qv below D (z_Kt ca) (z_K ad ca o) A s args) (F0 m 286 ls []) := by
  obtain ⟨hx, hb, hr, hlk, hml, hown, hts, hK, hA⟩ := id C0
  intro H locs ls hw hl
  refine lv_aload_n hx hb d_Tw_executeSingle_286 rfl (lv_at hl 0 rfl) ?_
  refine lv_iload_n hx hb d_Tw_executeSingle_287 rfl (lv_at hl 1 rfl) ?_
  refine lv_sipush (v := (188 : Int32)) hx hb d_Tw_executeSingle_288 (by decide) ?_
  refine lv_icmp_ne (tgt := 298) hx hb d_Tw_executeSingle_291 (by decide) (fun c40 => ?_) (fun c40 => ?_)
  · have h := ok_f h c40
    refine lv_iconst (v := (0 : Int32)) hx hb d_Tw_executeSingle_298 (by decide) ?_
    exact w_Tw_executeSingle_299 o C0 q x2 (0 : Int32) h H locs ls hw (lv_sub hl [0, 2] rfl)
  · have h := ok_t h c40
    refine lv_iconst (v := (1 : Int32)) hx hb d_Tw_executeSingle_294 (by decide) ?_
    refine lv_goto (tgt := 299) hx hb d_Tw_executeSingle_295 (by decide) ?_
    exact w_Tw_executeSingle_299 o C0 q x2 (1 : Int32) h H locs ls hw (lv_sub hl [0, 2] rfl)
set_option maxHeartbeats 4000000 in
set_option maxRecDepth 100000 in
theorem w_Tw_executeSingle_258 {p : Program} {l : Launch} {e : Env} {s : State} {m : MethodId} {args : Array Value} {below : List Frame} {meth : Method} {c : Code} {D : va_G} {A : Nat → Prop} {ad : Nat → Nat} {ca : Nat → ClassId} (o : z_Sg) (C0 : z_cx z_RTw b_Tw_executeSingle 3 none D (z_Kt ca) A p s m args meth c) (q : z_Sg) (x2 : Int32) (h : k_Tw_executeSingle_258 x2 q = some o) : ∀ (H : Heap) (locs : List Loc) (ls : Array Slot), z_wd D (z_K ad ca q) A s H locs → lv_has ls 3 [(0, .ref (ad 20)), (2, .int x2)] → W p l e (z_rm 4 111) s m args below meth c H locs 0 0 (z_qv below D (z_Kt ca) (z_K ad ca o) A s args) (F0 m 258 ls []) := by
  obtain ⟨hx, hb, hr, hlk, hml, hown, hts, hK, hA⟩ := id C0
  intro H locs ls hw hl
  refine lv_aload_n hx hb d_Tw_executeSingle_258 rfl (lv_at hl 0 rfl) ?_
  refine gfK_20_operands C0 hw fl_Tw_15 d_Tw_executeSingle_259 ?_
  refine lv_aload_n hx hb d_Tw_executeSingle_262 rfl (lv_at hl 0 rfl) ?_
  refine gfK_20_operands C0 hw fl_Tw_15 d_Tw_executeSingle_263 ?_
  obtain ⟨r45, er45, h⟩ := ok_b h
  refine z_vl (rest := [.ref (ad 6)]) C0 hw (c_Op_value q r45 er45) mw_Op_value ml_Tw_75 6 rfl ⟨Nat.le_of_ble_eq_true rfl, Nat.le_of_ble_eq_true rfl⟩ ⟨Nat.le_refl 0, Nat.le_refl 0⟩ rfl hl.1 rfl (Nat.le_of_ble_eq_true rfl) d_Tw_executeSingle_266 (fun H locs hw => ?_)
  refine lv_aload_n hx hb d_Tw_executeSingle_269 rfl (lv_at hl 0 rfl) ?_
  refine gfK_20_operands C0 hw fl_Tw_15 d_Tw_executeSingle_270 ?_
  refine gfK_6_bytes C0 hw fl_Tw_95 d_Tw_executeSingle_273 ?_
  obtain ⟨r46, er46, h⟩ := ok_b h
  refine z_sl (rest := [.ref (ad 6)]) C0 hw (c_Ar_signed r45 (z_gI q 15) q r46 er46) mw_Ar_signed ml_Tw_98 ⟨Nat.le_of_ble_eq_true rfl, Nat.le_of_ble_eq_true rfl⟩ ⟨Nat.le_refl 0, Nat.le_refl 0⟩ rfl hl.1 rfl (Nat.le_of_ble_eq_true rfl) d_Tw_executeSingle_276 (fun H locs hw => ?_)
  refine lv_iload_n hx hb d_Tw_executeSingle_279 rfl (lv_at hl 1 rfl) ?_
  obtain ⟨r47, er47, h⟩ := ok_b h
  refine z_vv (rest := []) C0 hw (c_Op_putG r46 x2 q r47 er47) mw_Op_putG ml_Tw_88 6 rfl ⟨Nat.le_of_ble_eq_true rfl, Nat.le_of_ble_eq_true rfl⟩ ⟨Nat.le_refl 0, Nat.le_refl 0⟩ rfl hl.1 rfl (Nat.le_of_ble_eq_true rfl) d_Tw_executeSingle_280 (fun H locs hw => ?_)
  refine lv_goto (tgt := 320) hx hb d_Tw_executeSingle_283 (by decide) ?_
  exact w_Tw_executeSingle_320 o C0 r47 h H locs ls hw (lv_sub hl [] rfl)
set_option maxHeartbeats 4000000 in
set_option maxRecDepth 100000 in
theorem w_Tw_executeSingle_313 {p : Program} {l : Launch} {e : Env} {s : State} {m : MethodId} {args : Array Value} {below : List Frame} {meth : Method} {c : Code} {D : va_G} {A : Nat → Prop} {ad : Nat → Nat} {ca : Nat → ClassId} (o : z_Sg) (C0 : z_cx z_RTw b_Tw_executeSingle 3 none D (z_Kt ca) A p s m args meth c) (q : z_Sg) (h : k_Tw_executeSingle_313 q = some o) : ∀ (H : Heap) (locs : List Loc) (ls : Array Slot), z_wd D (z_K ad ca q) A s H locs → lv_has ls 3 [(0, .ref (ad 20))] → W p l e (z_rm 4 111) s m args below meth c H locs 0 0 (z_qv below D (z_Kt ca) (z_K ad ca o) A s args) (F0 m 313 ls []) := by
  obtain ⟨hx, hb, hr, hlk, hml, hown, hts, hK, hA⟩ := id C0
  intro H locs ls hw hl
  refine lv_aload_n hx hb d_Tw_executeSingle_313 rfl (lv_at hl 0 rfl) ?_
  obtain ⟨r50, er50, h⟩ := ok_b h
  refine z_vv (rest := []) C0 hw (c_Tw_changeAndAdd q r50 er50) mw_Tw_changeAndAdd ml_Tw_106 20 rfl ⟨Nat.le_of_ble_eq_true rfl, Nat.le_of_ble_eq_true rfl⟩ ⟨Nat.le_refl 0, Nat.le_refl 0⟩ rfl hl.1 rfl (Nat.le_of_ble_eq_true rfl) d_Tw_executeSingle_314 (fun H locs hw => ?_)
  refine lv_goto (tgt := 320) hx hb d_Tw_executeSingle_317 (by decide) ?_
  exact w_Tw_executeSingle_320 o C0 r50 h H locs ls hw (lv_sub hl [] rfl)
set_option maxHeartbeats 4000000 in
set_option maxRecDepth 100000 in
theorem c_Tw_executeSingle {l : Launch} {D : va_G} {ad : Nat → Nat} {ca : Nat → ClassId} (x1 : Int32) (q : z_Sg) (o : z_Sg) (h : f_Tw_executeSingle x1 q = some o) : z_cv l y_Tw_executeSingle b_Tw_executeSingle 3 none 4 111 D (z_Kt ca) (z_K ad ca q) (z_K ad ca o) [.ref (ad 20), .int x1] := by
  refine z_cv_of (own := z_RTw) (by decide) rfl ?_
  intro p e s m below meth c A C0 hw
  obtain ⟨hx, hb, hr, hlk, hml, hown, hts, hK, hA⟩ := id C0
  generalize hH : s.heap = H at hw ⊢
  generalize hlo : ([] : List Loc) = locs at hw ⊢
  refine z_entry (lv := [(0, .ref (ad 20)), (1, .int x1)]) (Nat.le_of_ble_eq_true rfl) rfl (fun ls hl => ?_)
  unfold f_Tw_executeSingle at h
  refine lv_aload_n hx hb d_Tw_executeSingle_0 rfl (lv_at hl 0 rfl) ?_
  refine gfK_20_code C0 hw fl_Tw_9 d_Tw_executeSingle_1 ?_
  obtain ⟨r1, er1, h⟩ := ok_b h
  refine z_vi (rest := []) C0 hw (c_De_sizeV q r1 er1) mw_De_sizeV ml_Tw_56 5 rfl ⟨Nat.le_of_ble_eq_true rfl, Nat.le_of_ble_eq_true rfl⟩ ⟨Nat.le_refl 0, Nat.le_refl 0⟩ rfl hl.1 rfl (Nat.le_of_ble_eq_true rfl) d_Tw_executeSingle_4 (fun H locs hw => ?_)
  refine lv_istore_n (lv' := [(2, .int r1), (0, .ref (ad 20)), (1, .int x1)]) hx hb d_Tw_executeSingle_7 rfl hl (by decide) rfl (fun ls hl => ?_)
  refine lv_iload_n hx hb d_Tw_executeSingle_8 rfl (lv_at hl 2 rfl) ?_
  by_cases c2 : x1 < (163 : Int32)
  · have h := ok_t h c2
    refine lv_tableOut (tgt := 320) hx hb d_Tw_executeSingle_9 (Or.inl (by have z := Int32.lt_iff_toInt_lt.mp c2; rw [show (163 : Int32).toInt = 163 from rfl] at z; exact z)) (by decide) ?_
    exact w_Tw_executeSingle_320 o C0 q h H locs ls hw (lv_sub hl [] rfl)
  have h := ok_f h c2
  by_cases c3 : (193 : Int32) < x1
  · have h := ok_t h c3
    refine lv_tableOut (tgt := 320) hx hb d_Tw_executeSingle_9 (Or.inr (by have z := Int32.lt_iff_toInt_lt.mp c3; rw [show (193 : Int32).toInt = 193 from rfl] at z; exact z)) (by decide) ?_
    exact w_Tw_executeSingle_320 o C0 q h H locs ls hw (lv_sub hl [] rfl)
  have h := ok_f h c3
  have u0 : (163 : Int) ≤ x1.toInt := by have z := c2; rw [Int32.lt_iff_toInt_lt, show (163 : Int32).toInt = 163 from rfl] at z; omega
  have u1 : x1.toInt ≤ (193 : Int) := by have z := c3; rw [Int32.lt_iff_toInt_lt, show (193 : Int32).toInt = 193 from rfl] at z; omega
  by_cases c4 : x1 = (163 : Int32)
  · have h := ok_t h c4
    refine lv_tableIn (off := 139) (tgt := 148) hx hb d_Tw_executeSingle_9 (by rw [c4]; decide) (by rw [c4]; decide) (by rw [c4]; rfl) (by decide) ?_
    exact w_Tw_executeSingle_148 o C0 q x1 r1 h H locs ls hw (lv_sub hl [1, 2, 0] rfl)
  have h := ok_f h c4
  have u0 : (164 : Int) ≤ x1.toInt := by have z := lv_neT c4 (a := 163) rfl; omega
  by_cases c7 : x1 = (164 : Int32)
  · have h := ok_t h c7
    refine lv_tableIn (off := 311) (tgt := 320) hx hb d_Tw_executeSingle_9 (by rw [c7]; decide) (by rw [c7]; decide) (by rw [c7]; rfl) (by decide) ?_
    exact w_Tw_executeSingle_320 o C0 q h H locs ls hw (lv_sub hl [] rfl)
  have h := ok_f h c7
  have u0 : (165 : Int) ≤ x1.toInt := by have z := lv_neT c7 (a := 164) rfl; omega
  by_cases c8 : x1 = (165 : Int32)
  · have h := ok_t h c8
    refine lv_tableIn (off := 311) (tgt := 320) hx hb d_Tw_executeSingle_9 (by rw [c8]; decide) (by rw [c8]; decide) (by rw [c8]; rfl) (by decide) ?_
    exact w_Tw_executeSingle_320 o C0 q h H locs ls hw (lv_sub hl [] rfl)
  have h := ok_f h c8
  have u0 : (166 : Int) ≤ x1.toInt := by have z := lv_neT c8 (a := 165) rfl; omega
  by_cases c9 : x1 = (166 : Int32)
  · have h := ok_t h c9
    refine lv_tableIn (off := 311) (tgt := 320) hx hb d_Tw_executeSingle_9 (by rw [c9]; decide) (by rw [c9]; decide) (by rw [c9]; rfl) (by decide) ?_
    exact w_Tw_executeSingle_320 o C0 q h H locs ls hw (lv_sub hl [] rfl)
  have h := ok_f h c9
  have u0 : (167 : Int) ≤ x1.toInt := by have z := lv_neT c9 (a := 166) rfl; omega
  by_cases c10 : x1 = (167 : Int32)
  · have h := ok_t h c10
    refine lv_tableIn (off := 311) (tgt := 320) hx hb d_Tw_executeSingle_9 (by rw [c10]; decide) (by rw [c10]; decide) (by rw [c10]; rfl) (by decide) ?_
    exact w_Tw_executeSingle_320 o C0 q h H locs ls hw (lv_sub hl [] rfl)
  have h := ok_f h c10
  have u0 : (168 : Int) ≤ x1.toInt := by have z := lv_neT c10 (a := 167) rfl; omega
  by_cases c11 : x1 = (168 : Int32)
  · have h := ok_t h c11
    refine lv_tableIn (off := 311) (tgt := 320) hx hb d_Tw_executeSingle_9 (by rw [c11]; decide) (by rw [c11]; decide) (by rw [c11]; rfl) (by decide) ?_
    exact w_Tw_executeSingle_320 o C0 q h H locs ls hw (lv_sub hl [] rfl)
  have h := ok_f h c11
  have u0 : (169 : Int) ≤ x1.toInt := by have z := lv_neT c11 (a := 168) rfl; omega
  by_cases c12 : x1 = (169 : Int32)
  · have h := ok_t h c12
    refine lv_tableIn (off := 311) (tgt := 320) hx hb d_Tw_executeSingle_9 (by rw [c12]; decide) (by rw [c12]; decide) (by rw [c12]; rfl) (by decide) ?_
    exact w_Tw_executeSingle_320 o C0 q h H locs ls hw (lv_sub hl [] rfl)
  have h := ok_f h c12
  have u0 : (170 : Int) ≤ x1.toInt := by have z := lv_neT c12 (a := 169) rfl; omega
  by_cases c13 : x1 = (170 : Int32)
  · have h := ok_t h c13
    refine lv_tableIn (off := 311) (tgt := 320) hx hb d_Tw_executeSingle_9 (by rw [c13]; decide) (by rw [c13]; decide) (by rw [c13]; rfl) (by decide) ?_
    exact w_Tw_executeSingle_320 o C0 q h H locs ls hw (lv_sub hl [] rfl)
  have h := ok_f h c13
  have u0 : (171 : Int) ≤ x1.toInt := by have z := lv_neT c13 (a := 170) rfl; omega
  by_cases c14 : x1 = (171 : Int32)
  · have h := ok_t h c14
    refine lv_tableIn (off := 139) (tgt := 148) hx hb d_Tw_executeSingle_9 (by rw [c14]; decide) (by rw [c14]; decide) (by rw [c14]; rfl) (by decide) ?_
    exact w_Tw_executeSingle_148 o C0 q x1 r1 h H locs ls hw (lv_sub hl [1, 2, 0] rfl)
  have h := ok_f h c14
  have u0 : (172 : Int) ≤ x1.toInt := by have z := lv_neT c14 (a := 171) rfl; omega
  by_cases c15 : x1 = (172 : Int32)
  · have h := ok_t h c15
    refine lv_tableIn (off := 311) (tgt := 320) hx hb d_Tw_executeSingle_9 (by rw [c15]; decide) (by rw [c15]; decide) (by rw [c15]; rfl) (by decide) ?_
    exact w_Tw_executeSingle_320 o C0 q h H locs ls hw (lv_sub hl [] rfl)
  have h := ok_f h c15
  have u0 : (173 : Int) ≤ x1.toInt := by have z := lv_neT c15 (a := 172) rfl; omega
  by_cases c16 : x1 = (173 : Int32)
  · have h := ok_t h c16
    refine lv_tableIn (off := 311) (tgt := 320) hx hb d_Tw_executeSingle_9 (by rw [c16]; decide) (by rw [c16]; decide) (by rw [c16]; rfl) (by decide) ?_
    exact w_Tw_executeSingle_320 o C0 q h H locs ls hw (lv_sub hl [] rfl)
  have h := ok_f h c16
  have u0 : (174 : Int) ≤ x1.toInt := by have z := lv_neT c16 (a := 173) rfl; omega
  by_cases c17 : x1 = (174 : Int32)
  · have h := ok_t h c17
    refine lv_tableIn (off := 311) (tgt := 320) hx hb d_Tw_executeSingle_9 (by rw [c17]; decide) (by rw [c17]; decide) (by rw [c17]; rfl) (by decide) ?_
    exact w_Tw_executeSingle_320 o C0 q h H locs ls hw (lv_sub hl [] rfl)
  have h := ok_f h c17
  have u0 : (175 : Int) ≤ x1.toInt := by have z := lv_neT c17 (a := 174) rfl; omega
  by_cases c18 : x1 = (175 : Int32)
  · have h := ok_t h c18
    refine lv_tableIn (off := 182) (tgt := 191) hx hb d_Tw_executeSingle_9 (by rw [c18]; decide) (by rw [c18]; decide) (by rw [c18]; rfl) (by decide) ?_
    refine lv_aload_n hx hb d_Tw_executeSingle_191 rfl (lv_at hl 1 rfl) ?_
    refine gfK_20_wide C0 hw fl_Tw_23 d_Tw_executeSingle_192 ?_
    refine lv_aload_n hx hb d_Tw_executeSingle_195 rfl (lv_at hl 1 rfl) ?_
    refine gfK_20_operands C0 hw fl_Tw_15 d_Tw_executeSingle_196 ?_
    refine lv_iload_n hx hb d_Tw_executeSingle_199 rfl (lv_at hl 0 rfl) ?_
    obtain ⟨r19, er19, h⟩ := ok_b h
    refine z_vl (rest := [.ref (ad 10)]) C0 hw (c_Op_g r1 q r19 er19) mw_Op_g ml_Tw_60 6 rfl ⟨Nat.le_of_ble_eq_true rfl, Nat.le_of_ble_eq_true rfl⟩ ⟨Nat.le_refl 0, Nat.le_refl 0⟩ rfl hl.1 rfl (Nat.le_of_ble_eq_true rfl) d_Tw_executeSingle_200 (fun H locs hw => ?_)
    refine lv_aload_n hx hb d_Tw_executeSingle_203 rfl (lv_at hl 1 rfl) ?_
    refine gfK_20_operands C0 hw fl_Tw_15 d_Tw_executeSingle_204 ?_
    obtain ⟨r20, er20, h⟩ := ok_b h
    refine z_vl (rest := [.long r19, .ref (ad 10)]) C0 hw (c_Op_value q r20 er20) mw_Op_value ml_Tw_75 6 rfl ⟨Nat.le_of_ble_eq_true rfl, Nat.le_of_ble_eq_true rfl⟩ ⟨Nat.le_refl 0, Nat.le_refl 0⟩ rfl hl.1 rfl (Nat.le_of_ble_eq_true rfl) d_Tw_executeSingle_207 (fun H locs hw => ?_)
    refine lv_iload_n hx hb d_Tw_executeSingle_210 rfl (lv_at hl 0 rfl) ?_
    refine lv_iconst (v := (1 : Int32)) hx hb d_Tw_executeSingle_211 (by decide) ?_
    obtain ⟨r21, er21, h⟩ := ok_b h
    refine z_vv (rest := []) C0 hw (c_Wi_multiply r19 r20 r1 (1 : Int32) q r21 er21) mw_Wi_multiply ml_Tw_79 10 rfl ⟨Nat.le_of_ble_eq_true rfl, Nat.le_of_ble_eq_true rfl⟩ ⟨Nat.le_refl 0, Nat.le_refl 0⟩ rfl hl.1 rfl (Nat.le_of_ble_eq_true rfl) d_Tw_executeSingle_212 (fun H locs hw => ?_)
    refine lv_aload_n hx hb d_Tw_executeSingle_215 rfl (lv_at hl 1 rfl) ?_
    refine gfK_20_operands C0 hw fl_Tw_15 d_Tw_executeSingle_216 ?_
    refine lv_aload_n hx hb d_Tw_executeSingle_219 rfl (lv_at hl 1 rfl) ?_
    refine gfK_20_wide C0 hw fl_Tw_23 d_Tw_executeSingle_220 ?_
    refine gfK_10_low C0 hw fl_Tw_85 d_Tw_executeSingle_223 ?_
    refine lv_iload_n hx hb d_Tw_executeSingle_226 rfl (lv_at hl 0 rfl) ?_
    obtain ⟨r22, er22, h⟩ := ok_b h
    refine z_vv (rest := []) C0 hw (c_Op_putG (z_gL r21 11) r1 r21 r22 er22) mw_Op_putG ml_Tw_88 6 rfl ⟨Nat.le_of_ble_eq_true rfl, Nat.le_of_ble_eq_true rfl⟩ ⟨Nat.le_refl 0, Nat.le_refl 0⟩ rfl hl.1 rfl (Nat.le_of_ble_eq_true rfl) d_Tw_executeSingle_227 (fun H locs hw => ?_)
    refine lv_goto (tgt := 320) hx hb d_Tw_executeSingle_230 (by decide) ?_
    exact w_Tw_executeSingle_320 o C0 r22 h H locs ls hw (lv_sub hl [] rfl)
  have h := ok_f h c18
  have u0 : (176 : Int) ≤ x1.toInt := by have z := lv_neT c18 (a := 175) rfl; omega
  by_cases c23 : x1 = (176 : Int32)
  · have h := ok_t h c23
    refine lv_tableIn (off := 224) (tgt := 233) hx hb d_Tw_executeSingle_9 (by rw [c23]; decide) (by rw [c23]; decide) (by rw [c23]; rfl) (by decide) ?_
    exact w_Tw_executeSingle_233 o C0 q h H locs ls hw (lv_sub hl [1] rfl)
  have h := ok_f h c23
  have u0 : (177 : Int) ≤ x1.toInt := by have z := lv_neT c23 (a := 176) rfl; omega
  by_cases c25 : x1 = (177 : Int32)
  · have h := ok_t h c25
    refine lv_tableIn (off := 224) (tgt := 233) hx hb d_Tw_executeSingle_9 (by rw [c25]; decide) (by rw [c25]; decide) (by rw [c25]; rfl) (by decide) ?_
    exact w_Tw_executeSingle_233 o C0 q h H locs ls hw (lv_sub hl [1] rfl)
  have h := ok_f h c25
  have u0 : (178 : Int) ≤ x1.toInt := by have z := lv_neT c25 (a := 177) rfl; omega
  by_cases c26 : x1 = (178 : Int32)
  · have h := ok_t h c26
    refine lv_tableIn (off := 311) (tgt := 320) hx hb d_Tw_executeSingle_9 (by rw [c26]; decide) (by rw [c26]; decide) (by rw [c26]; rfl) (by decide) ?_
    exact w_Tw_executeSingle_320 o C0 q h H locs ls hw (lv_sub hl [] rfl)
  have h := ok_f h c26
  have u0 : (179 : Int) ≤ x1.toInt := by have z := lv_neT c26 (a := 178) rfl; omega
  by_cases c27 : x1 = (179 : Int32)
  · have h := ok_t h c27
    refine lv_tableIn (off := 139) (tgt := 148) hx hb d_Tw_executeSingle_9 (by rw [c27]; decide) (by rw [c27]; decide) (by rw [c27]; rfl) (by decide) ?_
    exact w_Tw_executeSingle_148 o C0 q x1 r1 h H locs ls hw (lv_sub hl [1, 2, 0] rfl)
  have h := ok_f h c27
  have u0 : (180 : Int) ≤ x1.toInt := by have z := lv_neT c27 (a := 179) rfl; omega
  by_cases c28 : x1 = (180 : Int32)
  · have h := ok_t h c28
    refine lv_tableIn (off := 311) (tgt := 320) hx hb d_Tw_executeSingle_9 (by rw [c28]; decide) (by rw [c28]; decide) (by rw [c28]; rfl) (by decide) ?_
    exact w_Tw_executeSingle_320 o C0 q h H locs ls hw (lv_sub hl [] rfl)
  have h := ok_f h c28
  have u0 : (181 : Int) ≤ x1.toInt := by have z := lv_neT c28 (a := 180) rfl; omega
  by_cases c29 : x1 = (181 : Int32)
  · have h := ok_t h c29
    refine lv_tableIn (off := 311) (tgt := 320) hx hb d_Tw_executeSingle_9 (by rw [c29]; decide) (by rw [c29]; decide) (by rw [c29]; rfl) (by decide) ?_
    exact w_Tw_executeSingle_320 o C0 q h H locs ls hw (lv_sub hl [] rfl)
  have h := ok_f h c29
  have u0 : (182 : Int) ≤ x1.toInt := by have z := lv_neT c29 (a := 181) rfl; omega
  by_cases c30 : x1 = (182 : Int32)
  · have h := ok_t h c30
    refine lv_tableIn (off := 231) (tgt := 240) hx hb d_Tw_executeSingle_9 (by rw [c30]; decide) (by rw [c30]; decide) (by rw [c30]; rfl) (by decide) ?_
    exact w_Tw_executeSingle_240 o C0 q r1 h H locs ls hw (lv_sub hl [1, 0] rfl)
  have h := ok_f h c30
  have u0 : (183 : Int) ≤ x1.toInt := by have z := lv_neT c30 (a := 182) rfl; omega
  by_cases c33 : x1 = (183 : Int32)
  · have h := ok_t h c33
    refine lv_tableIn (off := 231) (tgt := 240) hx hb d_Tw_executeSingle_9 (by rw [c33]; decide) (by rw [c33]; decide) (by rw [c33]; rfl) (by decide) ?_
    exact w_Tw_executeSingle_240 o C0 q r1 h H locs ls hw (lv_sub hl [1, 0] rfl)
  have h := ok_f h c33
  have u0 : (184 : Int) ≤ x1.toInt := by have z := lv_neT c33 (a := 183) rfl; omega
  by_cases c34 : x1 = (184 : Int32)
  · have h := ok_t h c34
    refine lv_tableIn (off := 311) (tgt := 320) hx hb d_Tw_executeSingle_9 (by rw [c34]; decide) (by rw [c34]; decide) (by rw [c34]; rfl) (by decide) ?_
    exact w_Tw_executeSingle_320 o C0 q h H locs ls hw (lv_sub hl [] rfl)
  have h := ok_f h c34
  have u0 : (185 : Int) ≤ x1.toInt := by have z := lv_neT c34 (a := 184) rfl; omega
  by_cases c35 : x1 = (185 : Int32)
  · have h := ok_t h c35
    refine lv_tableIn (off := 311) (tgt := 320) hx hb d_Tw_executeSingle_9 (by rw [c35]; decide) (by rw [c35]; decide) (by rw [c35]; rfl) (by decide) ?_
    exact w_Tw_executeSingle_320 o C0 q h H locs ls hw (lv_sub hl [] rfl)
  have h := ok_f h c35
  have u0 : (186 : Int) ≤ x1.toInt := by have z := lv_neT c35 (a := 185) rfl; omega
  by_cases c36 : x1 = (186 : Int32)
  · have h := ok_t h c36
    refine lv_tableIn (off := 159) (tgt := 168) hx hb d_Tw_executeSingle_9 (by rw [c36]; decide) (by rw [c36]; decide) (by rw [c36]; rfl) (by decide) ?_
    refine lv_aload_n hx hb d_Tw_executeSingle_168 rfl (lv_at hl 1 rfl) ?_
    refine lv_aload_n hx hb d_Tw_executeSingle_169 rfl (lv_at hl 1 rfl) ?_
    refine gfK_20_code C0 hw fl_Tw_9 d_Tw_executeSingle_170 ?_
    refine gfK_5_reg C0 hw fl_Tw_68 d_Tw_executeSingle_173 ?_
    refine lv_iconst (v := (3 : Int32)) hx hb d_Tw_executeSingle_176 (by decide) ?_
    refine lv_iand hx hb d_Tw_executeSingle_177 ?_
    refine lv_aload_n hx hb d_Tw_executeSingle_178 rfl (lv_at hl 1 rfl) ?_
    refine gfK_20_code C0 hw fl_Tw_9 d_Tw_executeSingle_179 ?_
    refine gfK_5_number C0 hw fl_Tw_71 d_Tw_executeSingle_182 ?_
    obtain ⟨r37, er37, h⟩ := ok_b h
    refine z_vv (rest := []) C0 hw (c_Tw_useBit ((z_gI q 13) &&& (3 : Int32)) (z_gL q 9) q r37 er37) mw_Tw_useBit ml_Tw_64 20 rfl ⟨Nat.le_of_ble_eq_true rfl, Nat.le_of_ble_eq_true rfl⟩ ⟨Nat.le_refl 0, Nat.le_refl 0⟩ rfl hl.1 rfl (Nat.le_of_ble_eq_true rfl) d_Tw_executeSingle_185 (fun H locs hw => ?_)
    refine lv_goto (tgt := 320) hx hb d_Tw_executeSingle_188 (by decide) ?_
    exact w_Tw_executeSingle_320 o C0 r37 h H locs ls hw (lv_sub hl [] rfl)
  have h := ok_f h c36
  have u0 : (187 : Int) ≤ x1.toInt := by have z := lv_neT c36 (a := 186) rfl; omega
  by_cases c38 : x1 = (187 : Int32)
  · have h := ok_t h c38
    refine lv_tableIn (off := 139) (tgt := 148) hx hb d_Tw_executeSingle_9 (by rw [c38]; decide) (by rw [c38]; decide) (by rw [c38]; rfl) (by decide) ?_
    exact w_Tw_executeSingle_148 o C0 q x1 r1 h H locs ls hw (lv_sub hl [1, 2, 0] rfl)
  have h := ok_f h c38
  have u0 : (188 : Int) ≤ x1.toInt := by have z := lv_neT c38 (a := 187) rfl; omega
  by_cases c39 : x1 = (188 : Int32)
  · have h := ok_t h c39
    refine lv_tableIn (off := 277) (tgt := 286) hx hb d_Tw_executeSingle_9 (by rw [c39]; decide) (by rw [c39]; decide) (by rw [c39]; rfl) (by decide) ?_
    exact w_Tw_executeSingle_286 o C0 q x1 r1 h H locs ls hw (lv_sub hl [1, 2, 0] rfl)
  have h := ok_f h c39
  have u0 : (189 : Int) ≤ x1.toInt := by have z := lv_neT c39 (a := 188) rfl; omega
  by_cases c43 : x1 = (189 : Int32)
  · have h := ok_t h c43
    refine lv_tableIn (off := 277) (tgt := 286) hx hb d_Tw_executeSingle_9 (by rw [c43]; decide) (by rw [c43]; decide) (by rw [c43]; rfl) (by decide) ?_
    exact w_Tw_executeSingle_286 o C0 q x1 r1 h H locs ls hw (lv_sub hl [1, 2, 0] rfl)
  have h := ok_f h c43
  have u0 : (190 : Int) ≤ x1.toInt := by have z := lv_neT c43 (a := 189) rfl; omega
  by_cases c44 : x1 = (190 : Int32)
  · have h := ok_t h c44
    refine lv_tableIn (off := 249) (tgt := 258) hx hb d_Tw_executeSingle_9 (by rw [c44]; decide) (by rw [c44]; decide) (by rw [c44]; rfl) (by decide) ?_
    exact w_Tw_executeSingle_258 o C0 q r1 h H locs ls hw (lv_sub hl [1, 0] rfl)
  have h := ok_f h c44
  have u0 : (191 : Int) ≤ x1.toInt := by have z := lv_neT c44 (a := 190) rfl; omega
  by_cases c48 : x1 = (191 : Int32)
  · have h := ok_t h c48
    refine lv_tableIn (off := 249) (tgt := 258) hx hb d_Tw_executeSingle_9 (by rw [c48]; decide) (by rw [c48]; decide) (by rw [c48]; rfl) (by decide) ?_
    exact w_Tw_executeSingle_258 o C0 q r1 h H locs ls hw (lv_sub hl [1, 0] rfl)
  have h := ok_f h c48
  have u0 : (192 : Int) ≤ x1.toInt := by have z := lv_neT c48 (a := 191) rfl; omega
  by_cases c49 : x1 = (192 : Int32)
  · have h := ok_t h c49
    refine lv_tableIn (off := 304) (tgt := 313) hx hb d_Tw_executeSingle_9 (by rw [c49]; decide) (by rw [c49]; decide) (by rw [c49]; rfl) (by decide) ?_
    exact w_Tw_executeSingle_313 o C0 q h H locs ls hw (lv_sub hl [1] rfl)
  have h := ok_f h c49
  have u0 : (193 : Int) ≤ x1.toInt := by have z := lv_neT c49 (a := 192) rfl; omega
  have c51 : x1 = (193 : Int32) := Int32.toInt_inj.mp (by rw [show (193 : Int32).toInt = 193 from rfl]; omega)
  refine lv_tableIn (off := 304) (tgt := 313) hx hb d_Tw_executeSingle_9 (by rw [c51]; decide) (by rw [c51]; decide) (by rw [c51]; rfl) (by decide) ?_
  exact w_Tw_executeSingle_313 o C0 q h H locs ls hw (lv_sub hl [1] rfl)
def k_Tw_execute_121 (q : z_Sg) : Option (Int32 × z_Sg) :=
  some ((-1 : Int32), q)
def k_Tw_execute_68 (x1 : Int32) (q : z_Sg) : Option (Int32 × z_Sg) :=
  (f_Ar_holds x1 q).bind (fun r3 => (f_Tw_moveIf r3 q).bind (fun r4 => k_Tw_execute_121 r4))
def k_Tw_execute_103 (t1 : Int64) (q : z_Sg) : Option (Int32 × z_Sg) :=
  (f_Op_put t1 q).bind (fun r9 => k_Tw_execute_121 r9)
def k_Tw_execute_83 (x1 : Int32) (q : z_Sg) : Option (Int32 × z_Sg) :=
  (f_Ar_holds x1 q).bind (fun r7 => if r7 = 0 then (k_Tw_execute_103 (0 : Int64) q) else (k_Tw_execute_103 (1 : Int64) q))
def f_Tw_execute (q : z_Sg) : Option (Int32 × z_Sg) :=
  z_nm (((z_gI q 11) - (256 : Int32))) (fun n1 => if (n1 &&& (-8 : Int32)) = (64 : Int32) then (k_Tw_execute_68 n1 q) else (if (n1 &&& (-8 : Int32)) = (72 : Int32) then (k_Tw_execute_68 n1 q) else (if (n1 &&& (-8 : Int32)) = (144 : Int32) then (k_Tw_execute_83 n1 q) else (if (n1 &&& (-8 : Int32)) = (152 : Int32) then (k_Tw_execute_83 n1 q) else (if (n1 &&& (-8 : Int32)) = (200 : Int32) then ((f_Tw_turnBytes q).bind (fun r12 => k_Tw_execute_121 r12)) else ((f_Tw_executeSingle n1 q).bind (fun r13 => k_Tw_execute_121 r13)))))))
set_option maxHeartbeats 4000000 in
set_option maxRecDepth 100000 in
theorem w_Tw_execute_121 {p : Program} {l : Launch} {e : Env} {s : State} {m : MethodId} {args : Array Value} {below : List Frame} {meth : Method} {c : Code} {D : va_G} {A : Nat → Prop} {ad : Nat → Nat} {ca : Nat → ClassId} (o : (Int32 × z_Sg)) (C0 : z_cx z_RTw b_Tw_execute 2 (some .int) D (z_Kt ca) A p s m args meth c) (q : z_Sg) (h : k_Tw_execute_121 q = some o) : ∀ (H : Heap) (locs : List Loc) (ls : Array Slot), z_wd D (z_K ad ca q) A s H locs → lv_has ls 2 [] → W p l e (z_rm 5 133) s m args below meth c H locs 0 0 (z_qi below D (z_Kt ca) (z_K ad ca o.2) A s args o.1) (F0 m 121 ls []) := by
  obtain ⟨hx, hb, hr, hlk, hml, hown, hts, hK, hA⟩ := id C0
  intro H locs ls hw hl
  refine lv_iconst (v := (-1 : Int32)) hx hb d_Tw_execute_121 (by decide) ?_
  have ho := Option.some.inj h
  subst ho
  exact z_rti C0 hw d_Tw_execute_122
set_option maxHeartbeats 4000000 in
set_option maxRecDepth 100000 in
theorem w_Tw_execute_68 {p : Program} {l : Launch} {e : Env} {s : State} {m : MethodId} {args : Array Value} {below : List Frame} {meth : Method} {c : Code} {D : va_G} {A : Nat → Prop} {ad : Nat → Nat} {ca : Nat → ClassId} (o : (Int32 × z_Sg)) (C0 : z_cx z_RTw b_Tw_execute 2 (some .int) D (z_Kt ca) A p s m args meth c) (q : z_Sg) (x1 : Int32) (h : k_Tw_execute_68 x1 q = some o) : ∀ (H : Heap) (locs : List Loc) (ls : Array Slot), z_wd D (z_K ad ca q) A s H locs → lv_has ls 2 [(0, .ref (ad 20)), (1, .int x1)] → W p l e (z_rm 5 133) s m args below meth c H locs 0 0 (z_qi below D (z_Kt ca) (z_K ad ca o.2) A s args o.1) (F0 m 68 ls []) := by
  obtain ⟨hx, hb, hr, hlk, hml, hown, hts, hK, hA⟩ := id C0
  intro H locs ls hw hl
  refine lv_aload_n hx hb d_Tw_execute_68 rfl (lv_at hl 0 rfl) ?_
  refine lv_aload_n hx hb d_Tw_execute_69 rfl (lv_at hl 0 rfl) ?_
  refine gfK_20_arithmetic C0 hw fl_Tw_19 d_Tw_execute_70 ?_
  refine lv_iload_n hx hb d_Tw_execute_73 rfl (lv_at hl 1 rfl) ?_
  obtain ⟨r3, er3, h⟩ := ok_b h
  refine z_vi (rest := [.ref (ad 20)]) C0 hw (c_Ar_holds x1 q r3 er3) mw_Ar_holds ml_Tw_33 9 rfl ⟨Nat.le_of_ble_eq_true rfl, Nat.le_of_ble_eq_true rfl⟩ ⟨Nat.le_refl 0, Nat.le_refl 0⟩ rfl hl.1 rfl (Nat.le_of_ble_eq_true rfl) d_Tw_execute_74 (fun H locs hw => ?_)
  obtain ⟨r4, er4, h⟩ := ok_b h
  refine z_vv (rest := []) C0 hw (c_Tw_moveIf r3 q r4 er4) mw_Tw_moveIf ml_Tw_39 20 rfl ⟨Nat.le_of_ble_eq_true rfl, Nat.le_of_ble_eq_true rfl⟩ ⟨Nat.le_refl 0, Nat.le_refl 0⟩ rfl hl.1 rfl (Nat.le_of_ble_eq_true rfl) d_Tw_execute_77 (fun H locs hw => ?_)
  refine lv_goto (tgt := 121) hx hb d_Tw_execute_80 (by decide) ?_
  exact w_Tw_execute_121 o C0 r4 h H locs ls hw (lv_sub hl [] rfl)
set_option maxHeartbeats 4000000 in
set_option maxRecDepth 100000 in
theorem w_Tw_execute_103 {p : Program} {l : Launch} {e : Env} {s : State} {m : MethodId} {args : Array Value} {below : List Frame} {meth : Method} {c : Code} {D : va_G} {A : Nat → Prop} {ad : Nat → Nat} {ca : Nat → ClassId} (o : (Int32 × z_Sg)) (C0 : z_cx z_RTw b_Tw_execute 2 (some .int) D (z_Kt ca) A p s m args meth c) (q : z_Sg) (t1 : Int64) (h : k_Tw_execute_103 t1 q = some o) : ∀ (H : Heap) (locs : List Loc) (ls : Array Slot), z_wd D (z_K ad ca q) A s H locs → lv_has ls 2 [] → W p l e (z_rm 5 133) s m args below meth c H locs 0 0 (z_qi below D (z_Kt ca) (z_K ad ca o.2) A s args o.1) (F0 m 103 ls [.long t1, .ref (ad 6)]) := by
  obtain ⟨hx, hb, hr, hlk, hml, hown, hts, hK, hA⟩ := id C0
  intro H locs ls hw hl
  obtain ⟨r9, er9, h⟩ := ok_b h
  refine z_vv (rest := []) C0 hw (c_Op_put t1 q r9 er9) mw_Op_put ml_Tw_43 6 rfl ⟨Nat.le_of_ble_eq_true rfl, Nat.le_of_ble_eq_true rfl⟩ ⟨Nat.le_refl 0, Nat.le_refl 0⟩ rfl hl.1 rfl (Nat.le_of_ble_eq_true rfl) d_Tw_execute_103 (fun H locs hw => ?_)
  refine lv_goto (tgt := 121) hx hb d_Tw_execute_106 (by decide) ?_
  exact w_Tw_execute_121 o C0 r9 h H locs ls hw (lv_sub hl [] rfl)
set_option maxHeartbeats 4000000 in
set_option maxRecDepth 100000 in
theorem w_Tw_execute_83 {p : Program} {l : Launch} {e : Env} {s : State} {m : MethodId} {args : Array Value} {below : List Frame} {meth : Method} {c : Code} {D : va_G} {A : Nat → Prop} {ad : Nat → Nat} {ca : Nat → ClassId} (o : (Int32 × z_Sg)) (C0 : z_cx z_RTw b_Tw_execute 2 (some .int) D (z_Kt ca) A p s m args meth c) (q : z_Sg) (x1 : Int32) (h : k_Tw_execute_83 x1 q = some o) : ∀ (H : Heap) (locs : List Loc) (ls : Array Slot), z_wd D (z_K ad ca q) A s H locs → lv_has ls 2 [(0, .ref (ad 20)), (1, .int x1)] → W p l e (z_rm 5 133) s m args below meth c H locs 0 0 (z_qi below D (z_Kt ca) (z_K ad ca o.2) A s args o.1) (F0 m 83 ls []) := by
  obtain ⟨hx, hb, hr, hlk, hml, hown, hts, hK, hA⟩ := id C0
  intro H locs ls hw hl
  refine lv_aload_n hx hb d_Tw_execute_83 rfl (lv_at hl 0 rfl) ?_
  refine gfK_20_operands C0 hw fl_Tw_15 d_Tw_execute_84 ?_
  refine lv_aload_n hx hb d_Tw_execute_87 rfl (lv_at hl 0 rfl) ?_
  refine gfK_20_arithmetic C0 hw fl_Tw_19 d_Tw_execute_88 ?_
  refine lv_iload_n hx hb d_Tw_execute_91 rfl (lv_at hl 1 rfl) ?_
  obtain ⟨r7, er7, h⟩ := ok_b h
  refine z_vi (rest := [.ref (ad 6)]) C0 hw (c_Ar_holds x1 q r7 er7) mw_Ar_holds ml_Tw_33 9 rfl ⟨Nat.le_of_ble_eq_true rfl, Nat.le_of_ble_eq_true rfl⟩ ⟨Nat.le_refl 0, Nat.le_refl 0⟩ rfl hl.1 rfl (Nat.le_of_ble_eq_true rfl) d_Tw_execute_92 (fun H locs hw => ?_)
  refine lv_if_eq (tgt := 102) hx hb d_Tw_execute_95 (by decide) (fun c8 => ?_) (fun c8 => ?_)
  · have h := ok_t h c8
    refine lv_lconst (v := (0 : Int64)) hx hb d_Tw_execute_102 (by decide) ?_
    exact w_Tw_execute_103 o C0 q (0 : Int64) h H locs ls hw (lv_sub hl [] rfl)
  · have h := ok_f h c8
    refine lv_lconst (v := (1 : Int64)) hx hb d_Tw_execute_98 (by decide) ?_
    refine lv_goto (tgt := 103) hx hb d_Tw_execute_99 (by decide) ?_
    exact w_Tw_execute_103 o C0 q (1 : Int64) h H locs ls hw (lv_sub hl [] rfl)
set_option maxHeartbeats 4000000 in
set_option maxRecDepth 100000 in
theorem c_Tw_execute {l : Launch} {D : va_G} {ad : Nat → Nat} {ca : Nat → ClassId} (q : z_Sg) (o : (Int32 × z_Sg)) (h : f_Tw_execute q = some o) : z_ci l y_Tw_execute b_Tw_execute 2 (some .int) 5 133 D (z_Kt ca) (z_K ad ca q) (z_K ad ca o.2) [.ref (ad 20)] o.1 := by
  refine z_ci_of (own := z_RTw) (by decide) rfl ?_
  intro p e s m below meth c A C0 hw
  obtain ⟨hx, hb, hr, hlk, hml, hown, hts, hK, hA⟩ := id C0
  generalize hH : s.heap = H at hw ⊢
  generalize hlo : ([] : List Loc) = locs at hw ⊢
  refine z_entry (lv := [(0, .ref (ad 20))]) (Nat.le_of_ble_eq_true rfl) rfl (fun ls hl => ?_)
  unfold f_Tw_execute at h
  refine lv_aload_n hx hb d_Tw_execute_0 rfl (lv_at hl 0 rfl) ?_
  refine gfK_20_code C0 hw fl_Tw_9 d_Tw_execute_1 ?_
  refine gfK_5_opcode C0 hw fl_Tw_27 d_Tw_execute_4 ?_
  refine lv_sipush (v := (256 : Int32)) hx hb d_Tw_execute_7 (by decide) ?_
  refine lv_isub hx hb d_Tw_execute_10 ?_
  obtain ⟨n1, en1, h⟩ := ok_n h
  refine z_ti en1 ?_
  refine lv_istore_n (lv' := [(1, .int n1), (0, .ref (ad 20))]) hx hb d_Tw_execute_11 rfl hl (by decide) rfl (fun ls hl => ?_)
  refine lv_iload_n hx hb d_Tw_execute_12 rfl (lv_at hl 0 rfl) ?_
  refine lv_bipush (v := (-8 : Int32)) hx hb d_Tw_execute_13 (by decide) ?_
  refine lv_iand hx hb d_Tw_execute_15 ?_
  by_cases c2 : (n1 &&& (-8 : Int32)) = (64 : Int32)
  · have h := ok_t h c2
    refine lv_lookup (off := 52) (tgt := 68) hx hb d_Tw_execute_16 (by decide) (by rw [c2]; rfl) (by decide) ?_
    exact w_Tw_execute_68 o C0 q n1 h H locs ls hw (lv_sub hl [1, 0] rfl)
  have h := ok_f h c2
  by_cases c5 : (n1 &&& (-8 : Int32)) = (72 : Int32)
  · have h := ok_t h c5
    refine lv_lookup (off := 52) (tgt := 68) hx hb d_Tw_execute_16 (by decide) (by rw [c5]; rfl) (by decide) ?_
    exact w_Tw_execute_68 o C0 q n1 h H locs ls hw (lv_sub hl [1, 0] rfl)
  have h := ok_f h c5
  by_cases c6 : (n1 &&& (-8 : Int32)) = (144 : Int32)
  · have h := ok_t h c6
    refine lv_lookup (off := 67) (tgt := 83) hx hb d_Tw_execute_16 (by decide) (by rw [c6]; rfl) (by decide) ?_
    exact w_Tw_execute_83 o C0 q n1 h H locs ls hw (lv_sub hl [1, 0] rfl)
  have h := ok_f h c6
  by_cases c10 : (n1 &&& (-8 : Int32)) = (152 : Int32)
  · have h := ok_t h c10
    refine lv_lookup (off := 67) (tgt := 83) hx hb d_Tw_execute_16 (by decide) (by rw [c10]; rfl) (by decide) ?_
    exact w_Tw_execute_83 o C0 q n1 h H locs ls hw (lv_sub hl [1, 0] rfl)
  have h := ok_f h c10
  by_cases c11 : (n1 &&& (-8 : Int32)) = (200 : Int32)
  · have h := ok_t h c11
    refine lv_lookup (off := 93) (tgt := 109) hx hb d_Tw_execute_16 (by decide) (by rw [c11]; rfl) (by decide) ?_
    refine lv_aload_n hx hb d_Tw_execute_109 rfl (lv_at hl 1 rfl) ?_
    obtain ⟨r12, er12, h⟩ := ok_b h
    refine z_vv (rest := []) C0 hw (c_Tw_turnBytes q r12 er12) mw_Tw_turnBytes ml_Tw_49 20 rfl ⟨Nat.le_of_ble_eq_true rfl, Nat.le_of_ble_eq_true rfl⟩ ⟨Nat.le_refl 0, Nat.le_refl 0⟩ rfl hl.1 rfl (Nat.le_of_ble_eq_true rfl) d_Tw_execute_110 (fun H locs hw => ?_)
    refine lv_goto (tgt := 121) hx hb d_Tw_execute_113 (by decide) ?_
    exact w_Tw_execute_121 o C0 r12 h H locs ls hw (lv_sub hl [] rfl)
  have h := ok_f h c11
  refine lv_lookup (off := 100) (tgt := 116) hx hb d_Tw_execute_16 (by decide) (by show Op.lookupswitch.offset [(64, 52), (72, 52), (144, 67), (152, 67), (200, 93)] _ _ = _; rw [lv_osw (a := 64) c2 rfl, lv_osw (a := 72) c5 rfl, lv_osw (a := 144) c6 rfl, lv_osw (a := 152) c10 rfl, lv_osw (a := 200) c11 rfl]; rfl) (by decide) ?_
  refine lv_aload_n hx hb d_Tw_execute_116 rfl (lv_at hl 1 rfl) ?_
  refine lv_iload_n hx hb d_Tw_execute_117 rfl (lv_at hl 0 rfl) ?_
  obtain ⟨r13, er13, h⟩ := ok_b h
  refine z_vv (rest := []) C0 hw (c_Tw_executeSingle n1 q r13 er13) mw_Tw_executeSingle ml_Tw_52 20 rfl ⟨Nat.le_of_ble_eq_true rfl, Nat.le_of_ble_eq_true rfl⟩ ⟨Nat.le_refl 0, Nat.le_refl 0⟩ rfl hl.1 rfl (Nat.le_of_ble_eq_true rfl) d_Tw_execute_118 (fun H locs hw => ?_)
  exact w_Tw_execute_121 o C0 r13 h H locs ls hw (lv_sub hl [] rfl)
def k_De_hasB_14 (t0 : Int32) (q : z_Sg) : Option Int32 :=
  z_gd (z_bo t0) (some t0)
def f_De_hasB (q : z_Sg) : Option Int32 :=
  if ((z_gI q 6) &&& (1 : Int32)) = 0 then (k_De_hasB_14 (0 : Int32) q) else (k_De_hasB_14 (1 : Int32) q)
set_option maxHeartbeats 4000000 in
set_option maxRecDepth 100000 in
theorem w_De_hasB_14 {p : Program} {l : Launch} {e : Env} {s : State} {m : MethodId} {args : Array Value} {below : List Frame} {meth : Method} {c : Code} {D : va_G} {A : Nat → Prop} {ad : Nat → Nat} {ca : Nat → ClassId} (o : Int32) (C0 : z_cx z_RDe b_De_hasB 1 (some .boolean) D (z_Kt ca) A p s m args meth c) (q : z_Sg) (t0 : Int32) (h : k_De_hasB_14 t0 q = some o) : ∀ (H : Heap) (locs : List Loc) (ls : Array Slot), z_wd D (z_K ad ca q) A s H locs → lv_has ls 1 [] → W p l e (z_rm 0 0) s m args below meth c H locs 0 0 (z_qi below D (z_Kt ca) (z_K ad ca q) A s args o) (F0 m 14 ls [.int t0]) := by
  obtain ⟨hx, hb, hr, hlk, hml, hown, hts, hK, hA⟩ := id C0
  intro H locs ls hw hl
  obtain ⟨b2, h⟩ := ok_G h
  have ho := Option.some.inj h
  subst ho
  exact z_rtz C0 hw (z_bo_n b2) d_De_hasB_14
set_option maxHeartbeats 4000000 in
set_option maxRecDepth 100000 in
theorem c_De_hasB {l : Launch} {D : va_G} {ad : Nat → Nat} {ca : Nat → ClassId} (q : z_Sg) (o : Int32) (h : f_De_hasB q = some o) : z_ci l y_De_hasB b_De_hasB 1 (some .boolean) 0 0 D (z_Kt ca) (z_K ad ca q) (z_K ad ca q) [.ref (ad 5)] o := by
  refine z_ci_of (own := z_RDe) (by decide) rfl ?_
  intro p e s m below meth c A C0 hw
  obtain ⟨hx, hb, hr, hlk, hml, hown, hts, hK, hA⟩ := id C0
  generalize hH : s.heap = H at hw ⊢
  generalize hlo : ([] : List Loc) = locs at hw ⊢
  refine z_entry (lv := [(0, .ref (ad 5))]) (Nat.le_of_ble_eq_true rfl) rfl (fun ls hl => ?_)
  unfold f_De_hasB at h
  refine lv_aload_n hx hb d_De_hasB_0 rfl (lv_at hl 0 rfl) ?_
  refine gfK_5_rex C0 hw fl_De_78 d_De_hasB_1 ?_
  refine lv_iconst (v := (1 : Int32)) hx hb d_De_hasB_4 (by decide) ?_
  refine lv_iand hx hb d_De_hasB_5 ?_
  refine lv_if_eq (tgt := 13) hx hb d_De_hasB_6 (by decide) (fun c1 => ?_) (fun c1 => ?_)
  · have h := ok_t h c1
    refine lv_iconst (v := (0 : Int32)) hx hb d_De_hasB_13 (by decide) ?_
    exact w_De_hasB_14 o C0 q (0 : Int32) h H locs ls hw (lv_sub hl [] rfl)
  · have h := ok_f h c1
    refine lv_iconst (v := (1 : Int32)) hx hb d_De_hasB_9 (by decide) ?_
    refine lv_goto (tgt := 14) hx hb d_De_hasB_10 (by decide) ?_
    exact w_De_hasB_14 o C0 q (1 : Int32) h H locs ls hw (lv_sub hl [] rfl)
def k_On_changePlacesWithA_24 (q : z_Sg) : Option z_Sg :=
  (f_De_sizeV q).bind (fun r2 => (f_Op_part (0 : Int32) r2 q).bind (fun r3 => (f_De_registerO q).bind (fun r4 => (f_Op_part r4 r2 q).bind (fun r5 => (f_Op_putPart (0 : Int32) r5 r2 q).bind (fun r6 => (f_De_registerO r6).bind (fun r7 => (f_Op_putPart r7 r3 r2 r6).bind (fun r8 => some r8)))))))
def f_On_changePlacesWithA (q : z_Sg) : Option z_Sg :=
  if (z_gI q 11) = (144 : Int32) then ((f_De_hasB q).bind (fun r9 => if r9 = 0 then (some q) else (k_On_changePlacesWithA_24 q))) else (k_On_changePlacesWithA_24 q)
set_option maxHeartbeats 4000000 in
set_option maxRecDepth 100000 in
theorem w_On_changePlacesWithA_24 {p : Program} {l : Launch} {e : Env} {s : State} {m : MethodId} {args : Array Value} {below : List Frame} {meth : Method} {c : Code} {D : va_G} {A : Nat → Prop} {ad : Nat → Nat} {ca : Nat → ClassId} (o : z_Sg) (C0 : z_cx z_ROn b_On_changePlacesWithA 4 none D (z_Kt ca) A p s m args meth c) (q : z_Sg) (h : k_On_changePlacesWithA_24 q = some o) : ∀ (H : Heap) (locs : List Loc) (ls : Array Slot), z_wd D (z_K ad ca q) A s H locs → lv_has ls 4 [(0, .ref (ad 19))] → W p l e (z_rm 2 50) s m args below meth c H locs 0 0 (z_qv below D (z_Kt ca) (z_K ad ca o) A s args) (F0 m 24 ls []) := by
  obtain ⟨hx, hb, hr, hlk, hml, hown, hts, hK, hA⟩ := id C0
  intro H locs ls hw hl
  refine lv_aload_n hx hb d_On_changePlacesWithA_24 rfl (lv_at hl 0 rfl) ?_
  refine gfK_19_code C0 hw fl_On_15 d_On_changePlacesWithA_25 ?_
  obtain ⟨r2, er2, h⟩ := ok_b h
  refine z_vi (rest := []) C0 hw (c_De_sizeV q r2 er2) mw_De_sizeV ml_On_54 5 rfl ⟨Nat.le_of_ble_eq_true rfl, Nat.le_of_ble_eq_true rfl⟩ ⟨Nat.le_refl 0, Nat.le_refl 0⟩ rfl hl.1 rfl (Nat.le_of_ble_eq_true rfl) d_On_changePlacesWithA_28 (fun H locs hw => ?_)
  refine lv_istore_n (lv' := [(1, .int r2), (0, .ref (ad 19))]) hx hb d_On_changePlacesWithA_31 rfl hl (by decide) rfl (fun ls hl => ?_)
  refine lv_aload_n hx hb d_On_changePlacesWithA_32 rfl (lv_at hl 1 rfl) ?_
  refine gfK_19_operands C0 hw fl_On_19 d_On_changePlacesWithA_33 ?_
  refine lv_iconst (v := (0 : Int32)) hx hb d_On_changePlacesWithA_36 (by decide) ?_
  refine lv_iload_n hx hb d_On_changePlacesWithA_37 rfl (lv_at hl 0 rfl) ?_
  obtain ⟨r3, er3, h⟩ := ok_b h
  refine z_vl (rest := []) C0 hw (c_Op_part (0 : Int32) r2 q r3 er3) mw_Op_part ml_On_78 6 rfl ⟨Nat.le_of_ble_eq_true rfl, Nat.le_of_ble_eq_true rfl⟩ ⟨Nat.le_refl 0, Nat.le_refl 0⟩ rfl hl.1 rfl (Nat.le_of_ble_eq_true rfl) d_On_changePlacesWithA_38 (fun H locs hw => ?_)
  refine lv_lstore_n (lv' := [(2, .long r3), (1, .int r2), (0, .ref (ad 19))]) hx hb d_On_changePlacesWithA_41 rfl hl (by decide) rfl (fun ls hl => ?_)
  refine lv_aload_n hx hb d_On_changePlacesWithA_42 rfl (lv_at hl 2 rfl) ?_
  refine gfK_19_operands C0 hw fl_On_19 d_On_changePlacesWithA_43 ?_
  refine lv_iconst (v := (0 : Int32)) hx hb d_On_changePlacesWithA_46 (by decide) ?_
  refine lv_aload_n hx hb d_On_changePlacesWithA_47 rfl (lv_at hl 2 rfl) ?_
  refine gfK_19_operands C0 hw fl_On_19 d_On_changePlacesWithA_48 ?_
  refine lv_aload_n hx hb d_On_changePlacesWithA_51 rfl (lv_at hl 2 rfl) ?_
  refine gfK_19_code C0 hw fl_On_15 d_On_changePlacesWithA_52 ?_
  obtain ⟨r4, er4, h⟩ := ok_b h
  refine z_vi (rest := [.ref (ad 6), .int (0 : Int32), .ref (ad 6)]) C0 hw (c_De_registerO q r4 er4) mw_De_registerO ml_On_40 5 rfl ⟨Nat.le_of_ble_eq_true rfl, Nat.le_of_ble_eq_true rfl⟩ ⟨Nat.le_refl 0, Nat.le_refl 0⟩ rfl hl.1 rfl (Nat.le_of_ble_eq_true rfl) d_On_changePlacesWithA_55 (fun H locs hw => ?_)
  refine lv_iload_n hx hb d_On_changePlacesWithA_58 rfl (lv_at hl 1 rfl) ?_
  obtain ⟨r5, er5, h⟩ := ok_b h
  refine z_vl (rest := [.int (0 : Int32), .ref (ad 6)]) C0 hw (c_Op_part r4 r2 q r5 er5) mw_Op_part ml_On_78 6 rfl ⟨Nat.le_of_ble_eq_true rfl, Nat.le_of_ble_eq_true rfl⟩ ⟨Nat.le_refl 0, Nat.le_refl 0⟩ rfl hl.1 rfl (Nat.le_of_ble_eq_true rfl) d_On_changePlacesWithA_59 (fun H locs hw => ?_)
  refine lv_iload_n hx hb d_On_changePlacesWithA_62 rfl (lv_at hl 1 rfl) ?_
  obtain ⟨r6, er6, h⟩ := ok_b h
  refine z_vv (rest := []) C0 hw (c_Op_putPart (0 : Int32) r5 r2 q r6 er6) mw_Op_putPart ml_On_48 6 rfl ⟨Nat.le_of_ble_eq_true rfl, Nat.le_of_ble_eq_true rfl⟩ ⟨Nat.le_refl 0, Nat.le_refl 0⟩ rfl hl.1 rfl (Nat.le_of_ble_eq_true rfl) d_On_changePlacesWithA_63 (fun H locs hw => ?_)
  refine lv_aload_n hx hb d_On_changePlacesWithA_66 rfl (lv_at hl 2 rfl) ?_
  refine gfK_19_operands C0 hw fl_On_19 d_On_changePlacesWithA_67 ?_
  refine lv_aload_n hx hb d_On_changePlacesWithA_70 rfl (lv_at hl 2 rfl) ?_
  refine gfK_19_code C0 hw fl_On_15 d_On_changePlacesWithA_71 ?_
  obtain ⟨r7, er7, h⟩ := ok_b h
  refine z_vi (rest := [.ref (ad 6)]) C0 hw (c_De_registerO r6 r7 er7) mw_De_registerO ml_On_40 5 rfl ⟨Nat.le_of_ble_eq_true rfl, Nat.le_of_ble_eq_true rfl⟩ ⟨Nat.le_refl 0, Nat.le_refl 0⟩ rfl hl.1 rfl (Nat.le_of_ble_eq_true rfl) d_On_changePlacesWithA_74 (fun H locs hw => ?_)
  refine lv_lload_n hx hb d_On_changePlacesWithA_77 rfl (lv_at hl 0 rfl) ?_
  refine lv_iload_n hx hb d_On_changePlacesWithA_78 rfl (lv_at hl 1 rfl) ?_
  obtain ⟨r8, er8, h⟩ := ok_b h
  refine z_vv (rest := []) C0 hw (c_Op_putPart r7 r3 r2 r6 r8 er8) mw_Op_putPart ml_On_48 6 rfl ⟨Nat.le_of_ble_eq_true rfl, Nat.le_of_ble_eq_true rfl⟩ ⟨Nat.le_refl 0, Nat.le_refl 0⟩ rfl hl.1 rfl (Nat.le_of_ble_eq_true rfl) d_On_changePlacesWithA_79 (fun H locs hw => ?_)
  have ho := Option.some.inj h
  subst ho
  exact z_rtv C0 hw d_On_changePlacesWithA_82
set_option maxHeartbeats 4000000 in
set_option maxRecDepth 100000 in
theorem c_On_changePlacesWithA {l : Launch} {D : va_G} {ad : Nat → Nat} {ca : Nat → ClassId} (q : z_Sg) (o : z_Sg) (h : f_On_changePlacesWithA q = some o) : z_cv l y_On_changePlacesWithA b_On_changePlacesWithA 4 none 2 50 D (z_Kt ca) (z_K ad ca q) (z_K ad ca o) [.ref (ad 19)] := by
  refine z_cv_of (own := z_ROn) (by decide) rfl ?_
  intro p e s m below meth c A C0 hw
  obtain ⟨hx, hb, hr, hlk, hml, hown, hts, hK, hA⟩ := id C0
  generalize hH : s.heap = H at hw ⊢
  generalize hlo : ([] : List Loc) = locs at hw ⊢
  refine z_entry (lv := [(0, .ref (ad 19))]) (Nat.le_of_ble_eq_true rfl) rfl (fun ls hl => ?_)
  unfold f_On_changePlacesWithA at h
  refine lv_aload_n hx hb d_On_changePlacesWithA_0 rfl (lv_at hl 0 rfl) ?_
  refine gfK_19_code C0 hw fl_On_15 d_On_changePlacesWithA_1 ?_
  refine gfK_5_opcode C0 hw fl_On_31 d_On_changePlacesWithA_4 ?_
  refine lv_sipush (v := (144 : Int32)) hx hb d_On_changePlacesWithA_7 (by decide) ?_
  refine lv_icmp_ne (tgt := 24) hx hb d_On_changePlacesWithA_10 (by decide) (fun c1 => ?_) (fun c1 => ?_)
  · have h := ok_f h c1
    exact w_On_changePlacesWithA_24 o C0 q h H locs ls hw (lv_sub hl [0] rfl)
  · have h := ok_t h c1
    refine lv_aload_n hx hb d_On_changePlacesWithA_13 rfl (lv_at hl 0 rfl) ?_
    refine gfK_19_code C0 hw fl_On_15 d_On_changePlacesWithA_14 ?_
    obtain ⟨r9, er9, h⟩ := ok_b h
    refine z_vi (rest := []) C0 hw (c_De_hasB q r9 er9) mw_De_hasB ml_On_99 5 rfl ⟨Nat.le_of_ble_eq_true rfl, Nat.le_of_ble_eq_true rfl⟩ ⟨Nat.le_refl 0, Nat.le_refl 0⟩ rfl hl.1 rfl (Nat.le_of_ble_eq_true rfl) d_On_changePlacesWithA_17 (fun H locs hw => ?_)
    refine lv_if_ne (tgt := 24) hx hb d_On_changePlacesWithA_20 (by decide) (fun c10 => ?_) (fun c10 => ?_)
    · have h := ok_f h c10
      exact w_On_changePlacesWithA_24 o C0 q h H locs ls hw (lv_sub hl [0] rfl)
    · have h := ok_t h c10
      have ho := Option.some.inj h
      subst ho
      exact z_rtv C0 hw d_On_changePlacesWithA_23
def f_Ar_logic (x1 : Int64) (x3 : Int32) (q : z_Sg) : Option (Int64 × z_Sg) :=
  (f_Ar_flagsOf x1 x3 q).bind (fun r1 => (f_Ar_settle (2245 : Int32) r1 (16 : Int32) q).bind (fun r2 => (f_Ar_maskOf x3 r2).bind (fun r3 => some ((x1 &&& r3), r2))))
set_option maxHeartbeats 4000000 in
set_option maxRecDepth 100000 in
theorem c_Ar_logic {l : Launch} {D : va_G} {ad : Nat → Nat} {ca : Nat → ClassId} (x1 : Int64) (x3 : Int32) (q : z_Sg) (o : (Int64 × z_Sg)) (h : f_Ar_logic x1 x3 q = some o) : z_cl l y_Ar_logic b_Ar_logic 4 (some .long) 1 26 D (z_Kt ca) (z_K ad ca q) (z_K ad ca o.2) [.ref (ad 9), .long x1, .int x3] o.1 := by
  refine z_cl_of (own := z_RAr) (by decide) rfl ?_
  intro p e s m below meth c A C0 hw
  obtain ⟨hx, hb, hr, hlk, hml, hown, hts, hK, hA⟩ := id C0
  generalize hH : s.heap = H at hw ⊢
  generalize hlo : ([] : List Loc) = locs at hw ⊢
  refine z_entry (lv := [(0, .ref (ad 9)), (1, .long x1), (3, .int x3)]) (Nat.le_of_ble_eq_true rfl) rfl (fun ls hl => ?_)
  unfold f_Ar_logic at h
  refine lv_aload_n hx hb d_Ar_logic_0 rfl (lv_at hl 0 rfl) ?_
  refine lv_sipush (v := (2245 : Int32)) hx hb d_Ar_logic_1 (by decide) ?_
  refine lv_lload_n hx hb d_Ar_logic_4 rfl (lv_at hl 1 rfl) ?_
  refine lv_iload_n hx hb d_Ar_logic_5 rfl (lv_at hl 2 rfl) ?_
  obtain ⟨r1, er1, h⟩ := ok_b h
  refine z_si (rest := [.int (2245 : Int32), .ref (ad 9)]) C0 hw (c_Ar_flagsOf x1 x3 q r1 er1) mw_Ar_flagsOf ml_Ar_28 ⟨Nat.le_of_ble_eq_true rfl, Nat.le_of_ble_eq_true rfl⟩ ⟨Nat.le_refl 0, Nat.le_refl 0⟩ rfl hl.1 rfl (Nat.le_of_ble_eq_true rfl) d_Ar_logic_6 (fun H locs hw => ?_)
  refine lv_bipush (v := (16 : Int32)) hx hb d_Ar_logic_9 (by decide) ?_
  obtain ⟨r2, er2, h⟩ := ok_b h
  refine z_vv (rest := []) C0 hw (c_Ar_settle (2245 : Int32) r1 (16 : Int32) q r2 er2) mw_Ar_settle ml_Ar_32 9 rfl ⟨Nat.le_of_ble_eq_true rfl, Nat.le_of_ble_eq_true rfl⟩ ⟨Nat.le_refl 0, Nat.le_refl 0⟩ rfl hl.1 rfl (Nat.le_of_ble_eq_true rfl) d_Ar_logic_11 (fun H locs hw => ?_)
  refine lv_lload_n hx hb d_Ar_logic_14 rfl (lv_at hl 1 rfl) ?_
  refine lv_iload_n hx hb d_Ar_logic_15 rfl (lv_at hl 2 rfl) ?_
  obtain ⟨r3, er3, h⟩ := ok_b h
  refine z_sl (rest := [.long x1]) C0 hw (c_Ar_maskOf x3 r2 r3 er3) mw_Ar_maskOf ml_Ar_36 ⟨Nat.le_of_ble_eq_true rfl, Nat.le_of_ble_eq_true rfl⟩ ⟨Nat.le_refl 0, Nat.le_refl 0⟩ rfl hl.1 rfl (Nat.le_of_ble_eq_true rfl) d_Ar_logic_16 (fun H locs hw => ?_)
  refine lv_land hx hb d_Ar_logic_19 ?_
  have ho := Option.some.inj h
  subst ho
  exact z_rtl C0 hw d_Ar_logic_20
def k_Wi_isBelow_19 (t0 : Int32) (q : z_Sg) : Option Int32 :=
  z_gd (z_bo t0) (some t0)
def f_Wi_isBelow (x0 : Int64) (x2 : Int64) (q : z_Sg) : Option Int32 :=
  if (x2 ^^^ (-9223372036854775808 : Int64)) ≤ (x0 ^^^ (-9223372036854775808 : Int64)) then (k_Wi_isBelow_19 (0 : Int32) q) else (k_Wi_isBelow_19 (1 : Int32) q)
set_option maxHeartbeats 4000000 in
set_option maxRecDepth 100000 in
theorem w_Wi_isBelow_19 {p : Program} {l : Launch} {e : Env} {s : State} {m : MethodId} {args : Array Value} {below : List Frame} {meth : Method} {c : Code} {D : va_G} {A : Nat → Prop} {ad : Nat → Nat} {ca : Nat → ClassId} (o : Int32) (C0 : z_cx z_RWi b_Wi_isBelow 4 (some .boolean) D (z_Kt ca) A p s m args meth c) (q : z_Sg) (t0 : Int32) (h : k_Wi_isBelow_19 t0 q = some o) : ∀ (H : Heap) (locs : List Loc) (ls : Array Slot), z_wd D (z_K ad ca q) A s H locs → lv_has ls 4 [] → W p l e (z_rm 0 0) s m args below meth c H locs 0 0 (z_qi below D (z_Kt ca) (z_K ad ca q) A s args o) (F0 m 19 ls [.int t0]) := by
  obtain ⟨hx, hb, hr, hlk, hml, hown, hts, hK, hA⟩ := id C0
  intro H locs ls hw hl
  obtain ⟨b2, h⟩ := ok_G h
  have ho := Option.some.inj h
  subst ho
  exact z_rtz C0 hw (z_bo_n b2) d_Wi_isBelow_19
set_option maxHeartbeats 4000000 in
set_option maxRecDepth 100000 in
theorem c_Wi_isBelow {l : Launch} {D : va_G} {ad : Nat → Nat} {ca : Nat → ClassId} (x0 : Int64) (x2 : Int64) (q : z_Sg) (o : Int32) (h : f_Wi_isBelow x0 x2 q = some o) : z_ci l y_Wi_isBelow b_Wi_isBelow 4 (some .boolean) 0 0 D (z_Kt ca) (z_K ad ca q) (z_K ad ca q) [.long x0, .long x2] o := by
  refine z_ci_of (own := z_RWi) (by decide) rfl ?_
  intro p e s m below meth c A C0 hw
  obtain ⟨hx, hb, hr, hlk, hml, hown, hts, hK, hA⟩ := id C0
  generalize hH : s.heap = H at hw ⊢
  generalize hlo : ([] : List Loc) = locs at hw ⊢
  refine z_entry (lv := [(0, .long x0), (2, .long x2)]) (Nat.le_of_ble_eq_true rfl) rfl (fun ls hl => ?_)
  unfold f_Wi_isBelow at h
  refine lv_lload_n hx hb d_Wi_isBelow_0 rfl (lv_at hl 0 rfl) ?_
  refine lv_ldc2 (own := z_RWi) hx hb hown (hts _ kl_Wi_52) d_Wi_isBelow_1 ?_
  refine lv_lxor hx hb d_Wi_isBelow_4 ?_
  refine lv_lload_n hx hb d_Wi_isBelow_5 rfl (lv_at hl 1 rfl) ?_
  refine lv_ldc2 (own := z_RWi) hx hb hown (hts _ kl_Wi_52) d_Wi_isBelow_6 ?_
  refine lv_lxor hx hb d_Wi_isBelow_9 ?_
  refine W.lcmp hx hb d_Wi_isBelow_10 ?_
  refine lv_if_ge (tgt := 18) hx hb d_Wi_isBelow_11 (by decide) (fun c1 => ?_) (fun c1 => ?_)
  · have h := ok_t h ((lg_cmp_ge _ _).mp c1)
    refine lv_iconst (v := (0 : Int32)) hx hb d_Wi_isBelow_18 (by decide) ?_
    exact w_Wi_isBelow_19 o C0 q (0 : Int32) h H locs ls hw (lv_sub hl [] rfl)
  · have h := ok_f h (fun z => c1 ((lg_cmp_ge _ _).mpr z))
    refine lv_iconst (v := (1 : Int32)) hx hb d_Wi_isBelow_14 (by decide) ?_
    refine lv_goto (tgt := 19) hx hb d_Wi_isBelow_15 (by decide) ?_
    exact w_Wi_isBelow_19 o C0 q (1 : Int32) h H locs ls hw (lv_sub hl [] rfl)
def k_Wi_divideMagnitudes_75 (ih12 : Int64 × Int64 × Int64 × Int64 × Int32 × z_Sg → Option z_Sg) (x3 : Int64) (x5 : Int64) (x8 : Int64) (x10 : Int64) (x12 : Int32) (q : z_Sg) : Option z_Sg :=
  z_nm (x12 + (-1 : Int32)) (fun n10 => ih12 (x3, x5, x8, x10, n10, q))
def k_Wi_divideMagnitudes_59 (ih12 : Int64 × Int64 × Int64 × Int64 × Int32 × z_Sg → Option z_Sg) (x3 : Int64) (x5 : Int64) (x8 : Int64) (x10 : Int64) (x12 : Int32) (q : z_Sg) : Option z_Sg :=
  z_nm ((x10 - x5)) (fun n8 => z_nm ((x8 ||| (z_lshl (1 : Int64) x12))) (fun n9 => k_Wi_divideMagnitudes_75 ih12 x3 x5 n9 n8 x12 q))
def k_Wi_divideMagnitudes_29 (ih12 : Int64 × Int64 × Int64 × Int64 × Int32 × z_Sg → Option z_Sg) (x3 : Int64) (x5 : Int64) (x8 : Int64) (x10 : Int64) (x12 : Int32) (t0 : Int32) (q : z_Sg) : Option z_Sg :=
  z_nm (((z_lshl x10 (1 : Int32)) ||| ((z_lushr x3 x12) &&& (1 : Int64)))) (fun n6 => if t0 = 0 then ((f_Wi_isBelow n6 x5 q).bind (fun r11 => if r11 = 0 then (k_Wi_divideMagnitudes_59 ih12 x3 x5 x8 n6 x12 q) else (k_Wi_divideMagnitudes_75 ih12 x3 x5 x8 n6 x12 q))) else (k_Wi_divideMagnitudes_59 ih12 x3 x5 x8 n6 x12 q))
def kb_Wi_divideMagnitudes_12 (ih12 : Int64 × Int64 × Int64 × Int64 × Int32 × z_Sg → Option z_Sg) (x3 : Int64) (x5 : Int64) (x8 : Int64) (x10 : Int64) (x12 : Int32) (q : z_Sg) : Option z_Sg :=
  if x12 < 0 then (z_nm (z_sL q 11 x8) (fun q3 => z_nm (z_sL q3 12 x10) (fun q4 => some q4))) else (if (0 : Int64) ≤ x10 then (k_Wi_divideMagnitudes_29 ih12 x3 x5 x8 x10 x12 (0 : Int32) q) else (k_Wi_divideMagnitudes_29 ih12 x3 x5 x8 x10 x12 (1 : Int32) q))
def k_Wi_divideMagnitudes_12 (x3 : Int64) (x5 : Int64) (x8 : Int64) (x10 : Int64) (x12 : Int32) (q : z_Sg) : Option z_Sg := z_lo (fun ih12 a => kb_Wi_divideMagnitudes_12 ih12 a.1 a.2.1 a.2.2.1 a.2.2.2.1 a.2.2.2.2.1 a.2.2.2.2.2) 2000 (x3, x5, x8, x10, x12, q)
def f_Wi_divideMagnitudes (x1 : Int64) (x3 : Int64) (x5 : Int64) (x7 : Int32) (q : z_Sg) : Option z_Sg :=
  z_nm ((x7 - (1 : Int32))) (fun n1 => k_Wi_divideMagnitudes_12 x3 x5 (0 : Int64) x1 n1 q)
set_option maxHeartbeats 4000000 in
set_option maxRecDepth 100000 in
theorem w_Wi_divideMagnitudes_75 {p : Program} {l : Launch} {e : Env} {s : State} {m : MethodId} {args : Array Value} {below : List Frame} {meth : Method} {c : Code} {D : va_G} {A : Nat → Prop} {ad : Nat → Nat} {ca : Nat → ClassId} (o : z_Sg) (C0 : z_cx z_RWi b_Wi_divideMagnitudes 14 none D (z_Kt ca) A p s m args meth c) (q : z_Sg) (ih12 : Int64 × Int64 × Int64 × Int64 × Int32 × z_Sg → Option z_Sg) (hi12 : ∀ a : Int64 × Int64 × Int64 × Int64 × Int32 × z_Sg, ih12 a = some o → ∀ (H : Heap) (locs : List Loc) (ls : Array Slot), z_wd D (z_K ad ca a.2.2.2.2.2) A s H locs → lv_has ls 14 [(0, .ref (ad 10)), (3, .long a.1), (5, .long a.2.1), (8, .long a.2.2.1), (10, .long a.2.2.2.1), (12, .int a.2.2.2.2.1)] → W p l e (z_rm 1 23) s m args below meth c H locs 0 0 (z_qv below D (z_Kt ca) (z_K ad ca o) A s args) (F0 m 12 ls [])) (x3 : Int64) (x5 : Int64) (x8 : Int64) (x10 : Int64) (x12 : Int32) (h : k_Wi_divideMagnitudes_75 ih12 x3 x5 x8 x10 x12 q = some o) : ∀ (H : Heap) (locs : List Loc) (ls : Array Slot), z_wd D (z_K ad ca q) A s H locs → lv_has ls 14 [(0, .ref (ad 10)), (3, .long x3), (5, .long x5), (8, .long x8), (10, .long x10), (12, .int x12)] → W p l e (z_rm 1 23) s m args below meth c H locs 0 0 (z_qv below D (z_Kt ca) (z_K ad ca o) A s args) (F0 m 75 ls []) := by
  obtain ⟨hx, hb, hr, hlk, hml, hown, hts, hK, hA⟩ := id C0
  intro H locs ls hw hl
  obtain ⟨n10, en10, h⟩ := ok_n h
  refine lv_iinc (v := n10) (lv' := [(12, .int n10), (0, .ref (ad 10)), (3, .long x3), (5, .long x5), (8, .long x8), (10, .long x10)]) hx hb d_Wi_divideMagnitudes_75 hl (k := 5) rfl (by rw [en10]; rfl) (by decide) rfl (fun ls hl => ?_)
  refine lv_goto (tgt := 12) hx hb d_Wi_divideMagnitudes_78 (by decide) ?_
  exact hi12 (x3, x5, x8, x10, n10, q) h H locs ls hw (lv_sub hl [1, 2, 3, 4, 5, 0] rfl)
set_option maxHeartbeats 4000000 in
set_option maxRecDepth 100000 in
theorem w_Wi_divideMagnitudes_59 {p : Program} {l : Launch} {e : Env} {s : State} {m : MethodId} {args : Array Value} {below : List Frame} {meth : Method} {c : Code} {D : va_G} {A : Nat → Prop} {ad : Nat → Nat} {ca : Nat → ClassId} (o : z_Sg) (C0 : z_cx z_RWi b_Wi_divideMagnitudes 14 none D (z_Kt ca) A p s m args meth c) (q : z_Sg) (ih12 : Int64 × Int64 × Int64 × Int64 × Int32 × z_Sg → Option z_Sg) (hi12 : ∀ a : Int64 × Int64 × Int64 × Int64 × Int32 × z_Sg, ih12 a = some o → ∀ (H : Heap) (locs : List Loc) (ls : Array Slot), z_wd D (z_K ad ca a.2.2.2.2.2) A s H locs → lv_has ls 14 [(0, .ref (ad 10)), (3, .long a.1), (5, .long a.2.1), (8, .long a.2.2.1), (10, .long a.2.2.2.1), (12, .int a.2.2.2.2.1)] → W p l e (z_rm 1 23) s m args below meth c H locs 0 0 (z_qv below D (z_Kt ca) (z_K ad ca o) A s args) (F0 m 12 ls [])) (x3 : Int64) (x5 : Int64) (x8 : Int64) (x10 : Int64) (x12 : Int32) (h : k_Wi_divideMagnitudes_59 ih12 x3 x5 x8 x10 x12 q = some o) : ∀ (H : Heap) (locs : List Loc) (ls : Array Slot), z_wd D (z_K ad ca q) A s H locs → lv_has ls 14 [(0, .ref (ad 10)), (3, .long x3), (5, .long x5), (8, .long x8), (10, .long x10), (12, .int x12)] → W p l e (z_rm 1 23) s m args below meth c H locs 0 0 (z_qv below D (z_Kt ca) (z_K ad ca o) A s args) (F0 m 59 ls []) := by
  obtain ⟨hx, hb, hr, hlk, hml, hown, hts, hK, hA⟩ := id C0
  intro H locs ls hw hl
  refine lv_lload hx hb d_Wi_divideMagnitudes_59 (lv_at hl 4 rfl) ?_
  refine lv_lload hx hb d_Wi_divideMagnitudes_61 (lv_at hl 2 rfl) ?_
  refine lv_lsub hx hb d_Wi_divideMagnitudes_63 ?_
  obtain ⟨n8, en8, h⟩ := ok_n h
  refine z_tl en8 ?_
  refine lv_lstore (lv' := [(10, .long n8), (0, .ref (ad 10)), (3, .long x3), (5, .long x5), (8, .long x8), (12, .int x12)]) hx hb d_Wi_divideMagnitudes_64 hl (by decide) rfl (fun ls hl => ?_)
  refine lv_lload hx hb d_Wi_divideMagnitudes_66 (lv_at hl 4 rfl) ?_
  refine lv_lconst (v := (1 : Int64)) hx hb d_Wi_divideMagnitudes_68 (by decide) ?_
  refine lv_iload hx hb d_Wi_divideMagnitudes_69 (lv_at hl 5 rfl) ?_
  refine lv_lshl (v := (z_lshl (1 : Int64) x12)) hx hb d_Wi_divideMagnitudes_71 rfl ?_
  refine lv_lor hx hb d_Wi_divideMagnitudes_72 ?_
  obtain ⟨n9, en9, h⟩ := ok_n h
  refine z_tl en9 ?_
  refine lv_lstore (lv' := [(8, .long n9), (10, .long n8), (0, .ref (ad 10)), (3, .long x3), (5, .long x5), (12, .int x12)]) hx hb d_Wi_divideMagnitudes_73 hl (by decide) rfl (fun ls hl => ?_)
  exact w_Wi_divideMagnitudes_75 o C0 q ih12 hi12 x3 x5 n9 n8 x12 h H locs ls hw (lv_sub hl [2, 3, 4, 0, 1, 5] rfl)
set_option maxHeartbeats 4000000 in
set_option maxRecDepth 100000 in
theorem w_Wi_divideMagnitudes_29 {p : Program} {l : Launch} {e : Env} {s : State} {m : MethodId} {args : Array Value} {below : List Frame} {meth : Method} {c : Code} {D : va_G} {A : Nat → Prop} {ad : Nat → Nat} {ca : Nat → ClassId} (o : z_Sg) (C0 : z_cx z_RWi b_Wi_divideMagnitudes 14 none D (z_Kt ca) A p s m args meth c) (q : z_Sg) (ih12 : Int64 × Int64 × Int64 × Int64 × Int32 × z_Sg → Option z_Sg) (hi12 : ∀ a : Int64 × Int64 × Int64 × Int64 × Int32 × z_Sg, ih12 a = some o → ∀ (H : Heap) (locs : List Loc) (ls : Array Slot), z_wd D (z_K ad ca a.2.2.2.2.2) A s H locs → lv_has ls 14 [(0, .ref (ad 10)), (3, .long a.1), (5, .long a.2.1), (8, .long a.2.2.1), (10, .long a.2.2.2.1), (12, .int a.2.2.2.2.1)] → W p l e (z_rm 1 23) s m args below meth c H locs 0 0 (z_qv below D (z_Kt ca) (z_K ad ca o) A s args) (F0 m 12 ls [])) (x3 : Int64) (x5 : Int64) (x8 : Int64) (x10 : Int64) (x12 : Int32) (t0 : Int32) (h : k_Wi_divideMagnitudes_29 ih12 x3 x5 x8 x10 x12 t0 q = some o) : ∀ (H : Heap) (locs : List Loc) (ls : Array Slot), z_wd D (z_K ad ca q) A s H locs → lv_has ls 14 [(0, .ref (ad 10)), (3, .long x3), (5, .long x5), (8, .long x8), (10, .long x10), (12, .int x12)] → W p l e (z_rm 1 23) s m args below meth c H locs 0 0 (z_qv below D (z_Kt ca) (z_K ad ca o) A s args) (F0 m 29 ls [.int t0]) := by
  obtain ⟨hx, hb, hr, hlk, hml, hown, hts, hK, hA⟩ := id C0
  intro H locs ls hw hl
  refine lv_istore (lv' := [(13, .int t0), (0, .ref (ad 10)), (3, .long x3), (5, .long x5), (8, .long x8), (10, .long x10), (12, .int x12)]) hx hb d_Wi_divideMagnitudes_29 hl (by decide) rfl (fun ls hl => ?_)
  refine lv_lload hx hb d_Wi_divideMagnitudes_31 (lv_at hl 5 rfl) ?_
  refine lv_iconst (v := (1 : Int32)) hx hb d_Wi_divideMagnitudes_33 (by decide) ?_
  refine lv_lshl (v := (z_lshl x10 (1 : Int32))) hx hb d_Wi_divideMagnitudes_34 rfl ?_
  refine lv_lload_n hx hb d_Wi_divideMagnitudes_35 rfl (lv_at hl 2 rfl) ?_
  refine lv_iload hx hb d_Wi_divideMagnitudes_36 (lv_at hl 6 rfl) ?_
  refine lv_lushr (v := (z_lushr x3 x12)) hx hb d_Wi_divideMagnitudes_38 rfl ?_
  refine lv_lconst (v := (1 : Int64)) hx hb d_Wi_divideMagnitudes_39 (by decide) ?_
  refine lv_land hx hb d_Wi_divideMagnitudes_40 ?_
  refine lv_lor hx hb d_Wi_divideMagnitudes_41 ?_
  obtain ⟨n6, en6, h⟩ := ok_n h
  refine z_tl en6 ?_
  refine lv_lstore (lv' := [(10, .long n6), (13, .int t0), (0, .ref (ad 10)), (3, .long x3), (5, .long x5), (8, .long x8), (12, .int x12)]) hx hb d_Wi_divideMagnitudes_42 hl (by decide) rfl (fun ls hl => ?_)
  refine lv_iload hx hb d_Wi_divideMagnitudes_44 (lv_at hl 1 rfl) ?_
  refine lv_if_ne (tgt := 59) hx hb d_Wi_divideMagnitudes_46 (by decide) (fun c7 => ?_) (fun c7 => ?_)
  · have h := ok_f h c7
    exact w_Wi_divideMagnitudes_59 o C0 q ih12 hi12 x3 x5 x8 n6 x12 h H locs ls hw (lv_sub hl [2, 3, 4, 5, 0, 6] rfl)
  · have h := ok_t h c7
    refine lv_lload hx hb d_Wi_divideMagnitudes_49 (lv_at hl 0 rfl) ?_
    refine lv_lload hx hb d_Wi_divideMagnitudes_51 (lv_at hl 4 rfl) ?_
    obtain ⟨r11, er11, h⟩ := ok_b h
    refine z_si (rest := []) C0 hw (c_Wi_isBelow n6 x5 q r11 er11) mw_Wi_isBelow ml_Wi_44 ⟨Nat.le_of_ble_eq_true rfl, Nat.le_of_ble_eq_true rfl⟩ ⟨Nat.le_refl 0, Nat.le_refl 0⟩ rfl hl.1 rfl (Nat.le_of_ble_eq_true rfl) d_Wi_divideMagnitudes_53 (fun H locs hw => ?_)
    refine lv_if_ne (tgt := 75) hx hb d_Wi_divideMagnitudes_56 (by decide) (fun c12 => ?_) (fun c12 => ?_)
    · have h := ok_f h c12
      exact w_Wi_divideMagnitudes_75 o C0 q ih12 hi12 x3 x5 x8 n6 x12 h H locs ls hw (lv_sub hl [2, 3, 4, 5, 0, 6] rfl)
    · have h := ok_t h c12
      exact w_Wi_divideMagnitudes_59 o C0 q ih12 hi12 x3 x5 x8 n6 x12 h H locs ls hw (lv_sub hl [2, 3, 4, 5, 0, 6] rfl)
set_option maxHeartbeats 4000000 in
set_option maxRecDepth 100000 in
theorem wb_Wi_divideMagnitudes_12 {p : Program} {l : Launch} {e : Env} {s : State} {m : MethodId} {args : Array Value} {below : List Frame} {meth : Method} {c : Code} {D : va_G} {A : Nat → Prop} {ad : Nat → Nat} {ca : Nat → ClassId} (o : z_Sg) (C0 : z_cx z_RWi b_Wi_divideMagnitudes 14 none D (z_Kt ca) A p s m args meth c) (q : z_Sg) (ih12 : Int64 × Int64 × Int64 × Int64 × Int32 × z_Sg → Option z_Sg) (hi12 : ∀ a : Int64 × Int64 × Int64 × Int64 × Int32 × z_Sg, ih12 a = some o → ∀ (H : Heap) (locs : List Loc) (ls : Array Slot), z_wd D (z_K ad ca a.2.2.2.2.2) A s H locs → lv_has ls 14 [(0, .ref (ad 10)), (3, .long a.1), (5, .long a.2.1), (8, .long a.2.2.1), (10, .long a.2.2.2.1), (12, .int a.2.2.2.2.1)] → W p l e (z_rm 1 23) s m args below meth c H locs 0 0 (z_qv below D (z_Kt ca) (z_K ad ca o) A s args) (F0 m 12 ls [])) (x3 : Int64) (x5 : Int64) (x8 : Int64) (x10 : Int64) (x12 : Int32) (h : kb_Wi_divideMagnitudes_12 ih12 x3 x5 x8 x10 x12 q = some o) : ∀ (H : Heap) (locs : List Loc) (ls : Array Slot), z_wd D (z_K ad ca q) A s H locs → lv_has ls 14 [(0, .ref (ad 10)), (3, .long x3), (5, .long x5), (8, .long x8), (10, .long x10), (12, .int x12)] → W p l e (z_rm 1 23) s m args below meth c H locs 0 0 (z_qv below D (z_Kt ca) (z_K ad ca o) A s args) (F0 m 12 ls []) := by
  obtain ⟨hx, hb, hr, hlk, hml, hown, hts, hK, hA⟩ := id C0
  intro H locs ls hw hl
  refine lv_iload hx hb d_Wi_divideMagnitudes_12 (lv_at hl 5 rfl) ?_
  refine lv_if_lt (tgt := 81) hx hb d_Wi_divideMagnitudes_14 (by decide) (fun c2 => ?_) (fun c2 => ?_)
  · have h := ok_t h c2
    refine lv_aload_n hx hb d_Wi_divideMagnitudes_81 rfl (lv_at hl 0 rfl) ?_
    refine lv_lload hx hb d_Wi_divideMagnitudes_82 (lv_at hl 3 rfl) ?_
    refine pfK_10_low C0 hw fl_Wi_15 d_Wi_divideMagnitudes_84 (fun H locs hw => ?_)
    obtain ⟨q3, eq3, h⟩ := ok_n h
    rw [← eq3] at hw
    refine lv_aload_n hx hb d_Wi_divideMagnitudes_87 rfl (lv_at hl 0 rfl) ?_
    refine lv_lload hx hb d_Wi_divideMagnitudes_88 (lv_at hl 4 rfl) ?_
    refine pfK_10_high C0 hw fl_Wi_23 d_Wi_divideMagnitudes_90 (fun H locs hw => ?_)
    obtain ⟨q4, eq4, h⟩ := ok_n h
    rw [← eq4] at hw
    have ho := Option.some.inj h
    subst ho
    exact z_rtv C0 hw d_Wi_divideMagnitudes_93
  · have h := ok_f h c2
    refine lv_lload hx hb d_Wi_divideMagnitudes_17 (lv_at hl 4 rfl) ?_
    refine lv_lconst (v := (0 : Int64)) hx hb d_Wi_divideMagnitudes_19 (by decide) ?_
    refine W.lcmp hx hb d_Wi_divideMagnitudes_20 ?_
    refine lv_if_ge (tgt := 28) hx hb d_Wi_divideMagnitudes_21 (by decide) (fun c5 => ?_) (fun c5 => ?_)
    · have h := ok_t h ((lg_cmp_ge _ _).mp c5)
      refine lv_iconst (v := (0 : Int32)) hx hb d_Wi_divideMagnitudes_28 (by decide) ?_
      exact w_Wi_divideMagnitudes_29 o C0 q ih12 hi12 x3 x5 x8 x10 x12 (0 : Int32) h H locs ls hw (lv_sub hl [0, 1, 2, 3, 4, 5] rfl)
    · have h := ok_f h (fun z => c5 ((lg_cmp_ge _ _).mpr z))
      refine lv_iconst (v := (1 : Int32)) hx hb d_Wi_divideMagnitudes_24 (by decide) ?_
      refine lv_goto (tgt := 29) hx hb d_Wi_divideMagnitudes_25 (by decide) ?_
      exact w_Wi_divideMagnitudes_29 o C0 q ih12 hi12 x3 x5 x8 x10 x12 (1 : Int32) h H locs ls hw (lv_sub hl [0, 1, 2, 3, 4, 5] rfl)
theorem w_Wi_divideMagnitudes_12 {p : Program} {l : Launch} {e : Env} {s : State} {m : MethodId} {args : Array Value} {below : List Frame} {meth : Method} {c : Code} {D : va_G} {A : Nat → Prop} {ad : Nat → Nat} {ca : Nat → ClassId} (o : z_Sg) (C0 : z_cx z_RWi b_Wi_divideMagnitudes 14 none D (z_Kt ca) A p s m args meth c) (q : z_Sg) (x3 : Int64) (x5 : Int64) (x8 : Int64) (x10 : Int64) (x12 : Int32) (h : k_Wi_divideMagnitudes_12 x3 x5 x8 x10 x12 q = some o) : ∀ (H : Heap) (locs : List Loc) (ls : Array Slot), z_wd D (z_K ad ca q) A s H locs → lv_has ls 14 [(0, .ref (ad 10)), (3, .long x3), (5, .long x5), (8, .long x8), (10, .long x10), (12, .int x12)] → W p l e (z_rm 1 23) s m args below meth c H locs 0 0 (z_qv below D (z_Kt ca) (z_K ad ca o) A s args) (F0 m 12 ls []) := by
  have key : ∀ (n : Nat) (a : Int64 × Int64 × Int64 × Int64 × Int32 × z_Sg), z_lo (fun ih12 a => kb_Wi_divideMagnitudes_12 ih12 a.1 a.2.1 a.2.2.1 a.2.2.2.1 a.2.2.2.2.1 a.2.2.2.2.2) n a = some o → ∀ (H : Heap) (locs : List Loc) (ls : Array Slot), z_wd D (z_K ad ca a.2.2.2.2.2) A s H locs → lv_has ls 14 [(0, .ref (ad 10)), (3, .long a.1), (5, .long a.2.1), (8, .long a.2.2.1), (10, .long a.2.2.2.1), (12, .int a.2.2.2.2.1)] → W p l e (z_rm 1 23) s m args below meth c H locs 0 0 (z_qv below D (z_Kt ca) (z_K ad ca o) A s args) (F0 m 12 ls []) := by
    intro n
    induction n with
    | zero => intro a h; cases h
    | succ n ih => exact fun a h => wb_Wi_divideMagnitudes_12 o C0 a.2.2.2.2.2 (z_lo (fun ih12 a => kb_Wi_divideMagnitudes_12 ih12 a.1 a.2.1 a.2.2.1 a.2.2.2.1 a.2.2.2.2.1 a.2.2.2.2.2) n) ih a.1 a.2.1 a.2.2.1 a.2.2.2.1 a.2.2.2.2.1 h
  exact key 2000 (x3, x5, x8, x10, x12, q) h
set_option maxHeartbeats 4000000 in
set_option maxRecDepth 100000 in
theorem c_Wi_divideMagnitudes {l : Launch} {D : va_G} {ad : Nat → Nat} {ca : Nat → ClassId} (x1 : Int64) (x3 : Int64) (x5 : Int64) (x7 : Int32) (q : z_Sg) (o : z_Sg) (h : f_Wi_divideMagnitudes x1 x3 x5 x7 q = some o) : z_cv l y_Wi_divideMagnitudes b_Wi_divideMagnitudes 14 none 1 23 D (z_Kt ca) (z_K ad ca q) (z_K ad ca o) [.ref (ad 10), .long x1, .long x3, .long x5, .int x7] := by
  refine z_cv_of (own := z_RWi) (by decide) rfl ?_
  intro p e s m below meth c A C0 hw
  obtain ⟨hx, hb, hr, hlk, hml, hown, hts, hK, hA⟩ := id C0
  generalize hH : s.heap = H at hw ⊢
  generalize hlo : ([] : List Loc) = locs at hw ⊢
  refine z_entry (lv := [(0, .ref (ad 10)), (1, .long x1), (3, .long x3), (5, .long x5), (7, .int x7)]) (Nat.le_of_ble_eq_true rfl) rfl (fun ls hl => ?_)
  unfold f_Wi_divideMagnitudes at h
  refine lv_lconst (v := (0 : Int64)) hx hb d_Wi_divideMagnitudes_0 (by decide) ?_
  refine lv_lstore (lv' := [(8, .long (0 : Int64)), (0, .ref (ad 10)), (1, .long x1), (3, .long x3), (5, .long x5), (7, .int x7)]) hx hb d_Wi_divideMagnitudes_1 hl (by decide) rfl (fun ls hl => ?_)
  refine lv_lload_n hx hb d_Wi_divideMagnitudes_3 rfl (lv_at hl 2 rfl) ?_
  refine lv_lstore (lv' := [(10, .long x1), (8, .long (0 : Int64)), (0, .ref (ad 10)), (1, .long x1), (3, .long x3), (5, .long x5), (7, .int x7)]) hx hb d_Wi_divideMagnitudes_4 hl (by decide) rfl (fun ls hl => ?_)
  refine lv_iload hx hb d_Wi_divideMagnitudes_6 (lv_at hl 6 rfl) ?_
  refine lv_iconst (v := (1 : Int32)) hx hb d_Wi_divideMagnitudes_8 (by decide) ?_
  refine lv_isub hx hb d_Wi_divideMagnitudes_9 ?_
  obtain ⟨n1, en1, h⟩ := ok_n h
  refine z_ti en1 ?_
  refine lv_istore (lv' := [(12, .int n1), (10, .long x1), (8, .long (0 : Int64)), (0, .ref (ad 10)), (1, .long x1), (3, .long x3), (5, .long x5), (7, .int x7)]) hx hb d_Wi_divideMagnitudes_10 hl (by decide) rfl (fun ls hl => ?_)
  exact w_Wi_divideMagnitudes_12 o C0 q x3 x5 (0 : Int64) x1 n1 h H locs ls hw (lv_sub hl [3, 5, 6, 2, 1, 0] rfl)
def k_Wi_divide_128 (q : z_Sg) : Option (Int32 × z_Sg) :=
  some ((0 : Int32), q)
def k_Wi_divide_237 (x9 : Int64) (t1 : Int64) (q : z_Sg) : Option (Int32 × z_Sg) :=
  z_nm (z_sL q 12 (t1 &&& x9)) (fun q18 => (f_Ar_settle (0 : Int32) (0 : Int32) (2261 : Int32) q18).bind (fun r19 => some ((1 : Int32), r19)))
def k_Wi_divide_213 (x9 : Int64) (x11 : Int32) (t1 : Int64) (q : z_Sg) : Option (Int32 × z_Sg) :=
  z_nm (z_sL q 11 (t1 &&& x9)) (fun q16 => if x11 = 0 then (k_Wi_divide_237 x9 (z_gL q16 12) q16) else (k_Wi_divide_237 x9 (-(z_gL q16 12)) q16))
def k_Wi_divide_195 (x9 : Int64) (x11 : Int32) (x19 : Int32) (q : z_Sg) : Option (Int32 × z_Sg) :=
  if x19 = 0 then (k_Wi_divide_213 x9 x11 (z_gL q 11) q) else (k_Wi_divide_213 x9 x11 (-(z_gL q 11)) q)
def k_Wi_divide_173 (x8 : Int32) (x9 : Int64) (x11 : Int32) (x19 : Int32) (t0 : Int64) (t1 : Int64) (q : z_Sg) : Option (Int32 × z_Sg) :=
  z_nm ((t0 + t1)) (fun n13 => if x8 = 0 then (k_Wi_divide_195 x9 x11 x19 q) else ((f_Wi_isBelow n13 (z_gL q 11) q).bind (fun r20 => if r20 = 0 then (k_Wi_divide_195 x9 x11 x19 q) else (some ((0 : Int32), q)))))
def k_Wi_divide_157 (x8 : Int32) (x9 : Int64) (x11 : Int32) (t0 : Int32) (q : z_Sg) : Option (Int32 × z_Sg) :=
  if t0 = 0 then (k_Wi_divide_173 x8 x9 x11 t0 (z_lushr x9 (1 : Int32)) (0 : Int64) q) else (k_Wi_divide_173 x8 x9 x11 t0 (z_lushr x9 (1 : Int32)) (1 : Int64) q)
def k_Wi_divide_111 (x7 : Int32) (x8 : Int32) (x9 : Int64) (x11 : Int32) (x12 : Int32) (x13 : Int64) (x15 : Int64) (x17 : Int64) (q : z_Sg) : Option (Int32 × z_Sg) :=
  if x13 = (0 : Int64) then (k_Wi_divide_128 q) else ((f_Wi_isBelow x15 x13 q).bind (fun r8 => if r8 = 0 then (k_Wi_divide_128 q) else ((f_Wi_divideMagnitudes x15 x17 x13 ((8 : Int32) * x7) q).bind (fun r10 => if x11 = x12 then (k_Wi_divide_157 x8 x9 x11 (0 : Int32) r10) else (k_Wi_divide_157 x8 x9 x11 (1 : Int32) r10)))))
def k_Wi_divide_106 (x7 : Int32) (x8 : Int32) (x9 : Int64) (x11 : Int32) (x12 : Int32) (x13 : Int64) (x17 : Int64) (t0 : Int64) (q : z_Sg) : Option (Int32 × z_Sg) :=
  z_nm ((t0 &&& x9)) (fun n24 => k_Wi_divide_111 x7 x8 x9 x11 x12 x13 n24 x17 q)
def k_Wi_divide_67 (x1 : Int64) (x3 : Int64) (x7 : Int32) (x8 : Int32) (x9 : Int64) (x11 : Int32) (x12 : Int32) (t0 : Int64) (q : z_Sg) : Option (Int32 × z_Sg) :=
  z_nm ((t0 &&& x9)) (fun n5 => if x11 = 0 then (k_Wi_divide_111 x7 x8 x9 x11 x12 n5 x1 x3 q) else (z_nm (((-x3) &&& x9)) (fun n22 => if x3 = (0 : Int64) then (k_Wi_divide_106 x7 x8 x9 x11 x12 n5 n22 (-x1) q) else (k_Wi_divide_106 x7 x8 x9 x11 x12 n5 n22 (x1 ^^^ (-1 : Int64)) q))))
def k_Wi_divide_52 (x1 : Int64) (x3 : Int64) (x5 : Int64) (x7 : Int32) (x8 : Int32) (x9 : Int64) (x11 : Int32) (t0 : Int32) (q : z_Sg) : Option (Int32 × z_Sg) :=
  if t0 = 0 then (k_Wi_divide_67 x1 x3 x7 x8 x9 x11 t0 x5 q) else (k_Wi_divide_67 x1 x3 x7 x8 x9 x11 t0 (-x5) q)
def k_Wi_divide_51 (x1 : Int64) (x3 : Int64) (x5 : Int64) (x7 : Int32) (x8 : Int32) (x9 : Int64) (x11 : Int32) (q : z_Sg) : Option (Int32 × z_Sg) :=
  k_Wi_divide_52 x1 x3 x5 x7 x8 x9 x11 (0 : Int32) q
def k_Wi_divide_28 (x1 : Int64) (x3 : Int64) (x5 : Int64) (x7 : Int32) (x8 : Int32) (x9 : Int64) (t0 : Int32) (q : z_Sg) : Option (Int32 × z_Sg) :=
  if x8 = 0 then (k_Wi_divide_51 x1 x3 x5 x7 x8 x9 t0 q) else ((f_Ar_signed x5 x7 q).bind (fun r25 => if (0 : Int64) ≤ r25 then (k_Wi_divide_51 x1 x3 x5 x7 x8 x9 t0 q) else (k_Wi_divide_52 x1 x3 x5 x7 x8 x9 t0 (1 : Int32) q)))
def k_Wi_divide_27 (x1 : Int64) (x3 : Int64) (x5 : Int64) (x7 : Int32) (x8 : Int32) (x9 : Int64) (q : z_Sg) : Option (Int32 × z_Sg) :=
  k_Wi_divide_28 x1 x3 x5 x7 x8 x9 (0 : Int32) q
def f_Wi_divide (x1 : Int64) (x3 : Int64) (x5 : Int64) (x7 : Int32) (x8 : Int32) (q : z_Sg) : Option (Int32 × z_Sg) :=
  (f_Ar_maskOf x7 q).bind (fun r1 => if x8 = 0 then (k_Wi_divide_27 x1 x3 x5 x7 x8 r1 q) else ((f_Ar_signed x1 x7 q).bind (fun r27 => if (0 : Int64) ≤ r27 then (k_Wi_divide_27 x1 x3 x5 x7 x8 r1 q) else (k_Wi_divide_28 x1 x3 x5 x7 x8 r1 (1 : Int32) q))))
set_option maxHeartbeats 4000000 in
set_option maxRecDepth 100000 in
theorem w_Wi_divide_128 {p : Program} {l : Launch} {e : Env} {s : State} {m : MethodId} {args : Array Value} {below : List Frame} {meth : Method} {c : Code} {D : va_G} {A : Nat → Prop} {ad : Nat → Nat} {ca : Nat → ClassId} (o : (Int32 × z_Sg)) (C0 : z_cx z_RWi b_Wi_divide 22 (some .boolean) D (z_Kt ca) A p s m args meth c) (q : z_Sg) (h : k_Wi_divide_128 q = some o) : ∀ (H : Heap) (locs : List Loc) (ls : Array Slot), z_wd D (z_K ad ca q) A s H locs → lv_has ls 22 [] → W p l e (z_rm 2 56) s m args below meth c H locs 0 0 (z_qi below D (z_Kt ca) (z_K ad ca o.2) A s args o.1) (F0 m 128 ls []) := by
  obtain ⟨hx, hb, hr, hlk, hml, hown, hts, hK, hA⟩ := id C0
  intro H locs ls hw hl
  refine lv_iconst (v := (0 : Int32)) hx hb d_Wi_divide_128 (by decide) ?_
  have ho := Option.some.inj h
  subst ho
  exact z_rtz C0 hw (z_bo_n (Or.inl rfl)) d_Wi_divide_129
set_option maxHeartbeats 4000000 in
set_option maxRecDepth 100000 in
theorem w_Wi_divide_237 {p : Program} {l : Launch} {e : Env} {s : State} {m : MethodId} {args : Array Value} {below : List Frame} {meth : Method} {c : Code} {D : va_G} {A : Nat → Prop} {ad : Nat → Nat} {ca : Nat → ClassId} (o : (Int32 × z_Sg)) (C0 : z_cx z_RWi b_Wi_divide 22 (some .boolean) D (z_Kt ca) A p s m args meth c) (q : z_Sg) (x9 : Int64) (t1 : Int64) (h : k_Wi_divide_237 x9 t1 q = some o) : ∀ (H : Heap) (locs : List Loc) (ls : Array Slot), z_wd D (z_K ad ca q) A s H locs → lv_has ls 22 [(0, .ref (ad 10)), (9, .long x9)] → W p l e (z_rm 2 56) s m args below meth c H locs 0 0 (z_qi below D (z_Kt ca) (z_K ad ca o.2) A s args o.1) (F0 m 237 ls [.long t1, .ref (ad 10)]) := by
  obtain ⟨hx, hb, hr, hlk, hml, hown, hts, hK, hA⟩ := id C0
  intro H locs ls hw hl
  refine lv_lload hx hb d_Wi_divide_237 (lv_at hl 1 rfl) ?_
  refine lv_land hx hb d_Wi_divide_239 ?_
  refine pfK_10_high C0 hw fl_Wi_23 d_Wi_divide_240 (fun H locs hw => ?_)
  obtain ⟨q18, eq18, h⟩ := ok_n h
  rw [← eq18] at hw
  refine lv_aload_n hx hb d_Wi_divide_243 rfl (lv_at hl 0 rfl) ?_
  refine gfK_10_arithmetic C0 hw fl_Wi_9 d_Wi_divide_244 ?_
  refine lv_iconst (v := (0 : Int32)) hx hb d_Wi_divide_247 (by decide) ?_
  refine lv_iconst (v := (0 : Int32)) hx hb d_Wi_divide_248 (by decide) ?_
  refine lv_sipush (v := (2261 : Int32)) hx hb d_Wi_divide_249 (by decide) ?_
  obtain ⟨r19, er19, h⟩ := ok_b h
  refine z_vv (rest := []) C0 hw (c_Ar_settle (0 : Int32) (0 : Int32) (2261 : Int32) q18 r19 er19) mw_Ar_settle ml_Wi_36 9 rfl ⟨Nat.le_of_ble_eq_true rfl, Nat.le_of_ble_eq_true rfl⟩ ⟨Nat.le_refl 0, Nat.le_refl 0⟩ rfl hl.1 rfl (Nat.le_of_ble_eq_true rfl) d_Wi_divide_252 (fun H locs hw => ?_)
  refine lv_iconst (v := (1 : Int32)) hx hb d_Wi_divide_255 (by decide) ?_
  have ho := Option.some.inj h
  subst ho
  exact z_rtz C0 hw (z_bo_n (Or.inr rfl)) d_Wi_divide_256
set_option maxHeartbeats 4000000 in
set_option maxRecDepth 100000 in
theorem w_Wi_divide_213 {p : Program} {l : Launch} {e : Env} {s : State} {m : MethodId} {args : Array Value} {below : List Frame} {meth : Method} {c : Code} {D : va_G} {A : Nat → Prop} {ad : Nat → Nat} {ca : Nat → ClassId} (o : (Int32 × z_Sg)) (C0 : z_cx z_RWi b_Wi_divide 22 (some .boolean) D (z_Kt ca) A p s m args meth c) (q : z_Sg) (x9 : Int64) (x11 : Int32) (t1 : Int64) (h : k_Wi_divide_213 x9 x11 t1 q = some o) : ∀ (H : Heap) (locs : List Loc) (ls : Array Slot), z_wd D (z_K ad ca q) A s H locs → lv_has ls 22 [(0, .ref (ad 10)), (9, .long x9), (11, .int x11)] → W p l e (z_rm 2 56) s m args below meth c H locs 0 0 (z_qi below D (z_Kt ca) (z_K ad ca o.2) A s args o.1) (F0 m 213 ls [.long t1, .ref (ad 10)]) := by
  obtain ⟨hx, hb, hr, hlk, hml, hown, hts, hK, hA⟩ := id C0
  intro H locs ls hw hl
  refine lv_lload hx hb d_Wi_divide_213 (lv_at hl 1 rfl) ?_
  refine lv_land hx hb d_Wi_divide_215 ?_
  refine pfK_10_low C0 hw fl_Wi_15 d_Wi_divide_216 (fun H locs hw => ?_)
  obtain ⟨q16, eq16, h⟩ := ok_n h
  rw [← eq16] at hw
  refine lv_aload_n hx hb d_Wi_divide_219 rfl (lv_at hl 0 rfl) ?_
  refine lv_iload hx hb d_Wi_divide_220 (lv_at hl 2 rfl) ?_
  refine lv_if_eq (tgt := 233) hx hb d_Wi_divide_222 (by decide) (fun c17 => ?_) (fun c17 => ?_)
  · have h := ok_t h c17
    refine lv_aload_n hx hb d_Wi_divide_233 rfl (lv_at hl 0 rfl) ?_
    refine gfK_10_high C0 hw fl_Wi_23 d_Wi_divide_234 ?_
    exact w_Wi_divide_237 o C0 q16 x9 (z_gL q16 12) h H locs ls hw (lv_sub hl [0, 1] rfl)
  · have h := ok_f h c17
    refine lv_aload_n hx hb d_Wi_divide_225 rfl (lv_at hl 0 rfl) ?_
    refine gfK_10_high C0 hw fl_Wi_23 d_Wi_divide_226 ?_
    refine lv_lneg hx hb d_Wi_divide_229 ?_
    refine lv_goto (tgt := 237) hx hb d_Wi_divide_230 (by decide) ?_
    exact w_Wi_divide_237 o C0 q16 x9 (-(z_gL q16 12)) h H locs ls hw (lv_sub hl [0, 1] rfl)
set_option maxHeartbeats 4000000 in
set_option maxRecDepth 100000 in
theorem w_Wi_divide_195 {p : Program} {l : Launch} {e : Env} {s : State} {m : MethodId} {args : Array Value} {below : List Frame} {meth : Method} {c : Code} {D : va_G} {A : Nat → Prop} {ad : Nat → Nat} {ca : Nat → ClassId} (o : (Int32 × z_Sg)) (C0 : z_cx z_RWi b_Wi_divide 22 (some .boolean) D (z_Kt ca) A p s m args meth c) (q : z_Sg) (x9 : Int64) (x11 : Int32) (x19 : Int32) (h : k_Wi_divide_195 x9 x11 x19 q = some o) : ∀ (H : Heap) (locs : List Loc) (ls : Array Slot), z_wd D (z_K ad ca q) A s H locs → lv_has ls 22 [(0, .ref (ad 10)), (9, .long x9), (11, .int x11), (19, .int x19)] → W p l e (z_rm 2 56) s m args below meth c H locs 0 0 (z_qi below D (z_Kt ca) (z_K ad ca o.2) A s args o.1) (F0 m 195 ls []) := by
  obtain ⟨hx, hb, hr, hlk, hml, hown, hts, hK, hA⟩ := id C0
  intro H locs ls hw hl
  refine lv_aload_n hx hb d_Wi_divide_195 rfl (lv_at hl 0 rfl) ?_
  refine lv_iload hx hb d_Wi_divide_196 (lv_at hl 3 rfl) ?_
  refine lv_if_eq (tgt := 209) hx hb d_Wi_divide_198 (by decide) (fun c15 => ?_) (fun c15 => ?_)
  · have h := ok_t h c15
    refine lv_aload_n hx hb d_Wi_divide_209 rfl (lv_at hl 0 rfl) ?_
    refine gfK_10_low C0 hw fl_Wi_15 d_Wi_divide_210 ?_
    exact w_Wi_divide_213 o C0 q x9 x11 (z_gL q 11) h H locs ls hw (lv_sub hl [0, 1, 2] rfl)
  · have h := ok_f h c15
    refine lv_aload_n hx hb d_Wi_divide_201 rfl (lv_at hl 0 rfl) ?_
    refine gfK_10_low C0 hw fl_Wi_15 d_Wi_divide_202 ?_
    refine lv_lneg hx hb d_Wi_divide_205 ?_
    refine lv_goto (tgt := 213) hx hb d_Wi_divide_206 (by decide) ?_
    exact w_Wi_divide_213 o C0 q x9 x11 (-(z_gL q 11)) h H locs ls hw (lv_sub hl [0, 1, 2] rfl)
set_option maxHeartbeats 4000000 in
set_option maxRecDepth 100000 in
theorem w_Wi_divide_173 {p : Program} {l : Launch} {e : Env} {s : State} {m : MethodId} {args : Array Value} {below : List Frame} {meth : Method} {c : Code} {D : va_G} {A : Nat → Prop} {ad : Nat → Nat} {ca : Nat → ClassId} (o : (Int32 × z_Sg)) (C0 : z_cx z_RWi b_Wi_divide 22 (some .boolean) D (z_Kt ca) A p s m args meth c) (q : z_Sg) (x8 : Int32) (x9 : Int64) (x11 : Int32) (x19 : Int32) (t0 : Int64) (t1 : Int64) (h : k_Wi_divide_173 x8 x9 x11 x19 t0 t1 q = some o) : ∀ (H : Heap) (locs : List Loc) (ls : Array Slot), z_wd D (z_K ad ca q) A s H locs → lv_has ls 22 [(0, .ref (ad 10)), (8, .int x8), (9, .long x9), (11, .int x11), (19, .int x19)] → W p l e (z_rm 2 56) s m args below meth c H locs 0 0 (z_qi below D (z_Kt ca) (z_K ad ca o.2) A s args o.1) (F0 m 173 ls [.long t1, .long t0]) := by
  obtain ⟨hx, hb, hr, hlk, hml, hown, hts, hK, hA⟩ := id C0
  intro H locs ls hw hl
  refine lv_ladd hx hb d_Wi_divide_173 ?_
  obtain ⟨n13, en13, h⟩ := ok_n h
  refine z_tl en13 ?_
  refine lv_lstore (lv' := [(20, .long n13), (0, .ref (ad 10)), (8, .int x8), (9, .long x9), (11, .int x11), (19, .int x19)]) hx hb d_Wi_divide_174 hl (by decide) rfl (fun ls hl => ?_)
  refine lv_iload hx hb d_Wi_divide_176 (lv_at hl 2 rfl) ?_
  refine lv_if_eq (tgt := 195) hx hb d_Wi_divide_178 (by decide) (fun c14 => ?_) (fun c14 => ?_)
  · have h := ok_t h c14
    exact w_Wi_divide_195 o C0 q x9 x11 x19 h H locs ls hw (lv_sub hl [1, 3, 4, 5] rfl)
  · have h := ok_f h c14
    refine lv_lload hx hb d_Wi_divide_181 (lv_at hl 0 rfl) ?_
    refine lv_aload_n hx hb d_Wi_divide_183 rfl (lv_at hl 1 rfl) ?_
    refine gfK_10_low C0 hw fl_Wi_15 d_Wi_divide_184 ?_
    obtain ⟨r20, er20, h⟩ := ok_b h
    refine z_si (rest := []) C0 hw (c_Wi_isBelow n13 (z_gL q 11) q r20 er20) mw_Wi_isBelow ml_Wi_44 ⟨Nat.le_of_ble_eq_true rfl, Nat.le_of_ble_eq_true rfl⟩ ⟨Nat.le_refl 0, Nat.le_refl 0⟩ rfl hl.1 rfl (Nat.le_of_ble_eq_true rfl) d_Wi_divide_187 (fun H locs hw => ?_)
    refine lv_if_eq (tgt := 195) hx hb d_Wi_divide_190 (by decide) (fun c21 => ?_) (fun c21 => ?_)
    · have h := ok_t h c21
      exact w_Wi_divide_195 o C0 q x9 x11 x19 h H locs ls hw (lv_sub hl [1, 3, 4, 5] rfl)
    · have h := ok_f h c21
      refine lv_iconst (v := (0 : Int32)) hx hb d_Wi_divide_193 (by decide) ?_
      have ho := Option.some.inj h
      subst ho
      exact z_rtz C0 hw (z_bo_n (Or.inl rfl)) d_Wi_divide_194
set_option maxHeartbeats 4000000 in
set_option maxRecDepth 100000 in
theorem w_Wi_divide_157 {p : Program} {l : Launch} {e : Env} {s : State} {m : MethodId} {args : Array Value} {below : List Frame} {meth : Method} {c : Code} {D : va_G} {A : Nat → Prop} {ad : Nat → Nat} {ca : Nat → ClassId} (o : (Int32 × z_Sg)) (C0 : z_cx z_RWi b_Wi_divide 22 (some .boolean) D (z_Kt ca) A p s m args meth c) (q : z_Sg) (x8 : Int32) (x9 : Int64) (x11 : Int32) (t0 : Int32) (h : k_Wi_divide_157 x8 x9 x11 t0 q = some o) : ∀ (H : Heap) (locs : List Loc) (ls : Array Slot), z_wd D (z_K ad ca q) A s H locs → lv_has ls 22 [(0, .ref (ad 10)), (8, .int x8), (9, .long x9), (11, .int x11)] → W p l e (z_rm 2 56) s m args below meth c H locs 0 0 (z_qi below D (z_Kt ca) (z_K ad ca o.2) A s args o.1) (F0 m 157 ls [.int t0]) := by
  obtain ⟨hx, hb, hr, hlk, hml, hown, hts, hK, hA⟩ := id C0
  intro H locs ls hw hl
  refine lv_istore (lv' := [(19, .int t0), (0, .ref (ad 10)), (8, .int x8), (9, .long x9), (11, .int x11)]) hx hb d_Wi_divide_157 hl (by decide) rfl (fun ls hl => ?_)
  refine lv_lload hx hb d_Wi_divide_159 (lv_at hl 3 rfl) ?_
  refine lv_iconst (v := (1 : Int32)) hx hb d_Wi_divide_161 (by decide) ?_
  refine lv_lushr (v := (z_lushr x9 (1 : Int32))) hx hb d_Wi_divide_162 rfl ?_
  refine lv_iload hx hb d_Wi_divide_163 (lv_at hl 0 rfl) ?_
  refine lv_if_eq (tgt := 172) hx hb d_Wi_divide_165 (by decide) (fun c12 => ?_) (fun c12 => ?_)
  · have h := ok_t h c12
    refine lv_lconst (v := (0 : Int64)) hx hb d_Wi_divide_172 (by decide) ?_
    exact w_Wi_divide_173 o C0 q x8 x9 x11 t0 (z_lushr x9 (1 : Int32)) (0 : Int64) h H locs ls hw (lv_sub hl [1, 2, 3, 4, 0] rfl)
  · have h := ok_f h c12
    refine lv_lconst (v := (1 : Int64)) hx hb d_Wi_divide_168 (by decide) ?_
    refine lv_goto (tgt := 173) hx hb d_Wi_divide_169 (by decide) ?_
    exact w_Wi_divide_173 o C0 q x8 x9 x11 t0 (z_lushr x9 (1 : Int32)) (1 : Int64) h H locs ls hw (lv_sub hl [1, 2, 3, 4, 0] rfl)
set_option maxHeartbeats 4000000 in
set_option maxRecDepth 100000 in
theorem w_Wi_divide_111 {p : Program} {l : Launch} {e : Env} {s : State} {m : MethodId} {args : Array Value} {below : List Frame} {meth : Method} {c : Code} {D : va_G} {A : Nat → Prop} {ad : Nat → Nat} {ca : Nat → ClassId} (o : (Int32 × z_Sg)) (C0 : z_cx z_RWi b_Wi_divide 22 (some .boolean) D (z_Kt ca) A p s m args meth c) (q : z_Sg) (x7 : Int32) (x8 : Int32) (x9 : Int64) (x11 : Int32) (x12 : Int32) (x13 : Int64) (x15 : Int64) (x17 : Int64) (h : k_Wi_divide_111 x7 x8 x9 x11 x12 x13 x15 x17 q = some o) : ∀ (H : Heap) (locs : List Loc) (ls : Array Slot), z_wd D (z_K ad ca q) A s H locs → lv_has ls 22 [(0, .ref (ad 10)), (7, .int x7), (8, .int x8), (9, .long x9), (11, .int x11), (12, .int x12), (13, .long x13), (15, .long x15), (17, .long x17)] → W p l e (z_rm 2 56) s m args below meth c H locs 0 0 (z_qi below D (z_Kt ca) (z_K ad ca o.2) A s args o.1) (F0 m 111 ls []) := by
  obtain ⟨hx, hb, hr, hlk, hml, hown, hts, hK, hA⟩ := id C0
  intro H locs ls hw hl
  refine lv_lload hx hb d_Wi_divide_111 (lv_at hl 6 rfl) ?_
  refine lv_lconst (v := (0 : Int64)) hx hb d_Wi_divide_113 (by decide) ?_
  refine W.lcmp hx hb d_Wi_divide_114 ?_
  refine lv_if_eq (tgt := 128) hx hb d_Wi_divide_115 (by decide) (fun c7 => ?_) (fun c7 => ?_)
  · have h := ok_t h ((lg_cmp_eq _ _).mp c7)
    exact w_Wi_divide_128 o C0 q h H locs ls hw (lv_sub hl [] rfl)
  · have h := ok_f h (fun z => c7 ((lg_cmp_eq _ _).mpr z))
    refine lv_lload hx hb d_Wi_divide_118 (lv_at hl 7 rfl) ?_
    refine lv_lload hx hb d_Wi_divide_120 (lv_at hl 6 rfl) ?_
    obtain ⟨r8, er8, h⟩ := ok_b h
    refine z_si (rest := []) C0 hw (c_Wi_isBelow x15 x13 q r8 er8) mw_Wi_isBelow ml_Wi_44 ⟨Nat.le_of_ble_eq_true rfl, Nat.le_of_ble_eq_true rfl⟩ ⟨Nat.le_refl 0, Nat.le_refl 0⟩ rfl hl.1 rfl (Nat.le_of_ble_eq_true rfl) d_Wi_divide_122 (fun H locs hw => ?_)
    refine lv_if_ne (tgt := 130) hx hb d_Wi_divide_125 (by decide) (fun c9 => ?_) (fun c9 => ?_)
    · have h := ok_f h c9
      refine lv_aload_n hx hb d_Wi_divide_130 rfl (lv_at hl 0 rfl) ?_
      refine lv_lload hx hb d_Wi_divide_131 (lv_at hl 7 rfl) ?_
      refine lv_lload hx hb d_Wi_divide_133 (lv_at hl 8 rfl) ?_
      refine lv_lload hx hb d_Wi_divide_135 (lv_at hl 6 rfl) ?_
      refine lv_bipush (v := (8 : Int32)) hx hb d_Wi_divide_137 (by decide) ?_
      refine lv_iload hx hb d_Wi_divide_139 (lv_at hl 1 rfl) ?_
      refine lv_imul hx hb d_Wi_divide_141 ?_
      obtain ⟨r10, er10, h⟩ := ok_b h
      refine z_vv (rest := []) C0 hw (c_Wi_divideMagnitudes x15 x17 x13 ((8 : Int32) * x7) q r10 er10) mw_Wi_divideMagnitudes ml_Wi_48 10 rfl ⟨Nat.le_of_ble_eq_true rfl, Nat.le_of_ble_eq_true rfl⟩ ⟨Nat.le_refl 0, Nat.le_refl 0⟩ rfl hl.1 rfl (Nat.le_of_ble_eq_true rfl) d_Wi_divide_142 (fun H locs hw => ?_)
      refine lv_iload hx hb d_Wi_divide_145 (lv_at hl 4 rfl) ?_
      refine lv_iload hx hb d_Wi_divide_147 (lv_at hl 5 rfl) ?_
      refine lv_icmp_eq (tgt := 156) hx hb d_Wi_divide_149 (by decide) (fun c11 => ?_) (fun c11 => ?_)
      · have h := ok_t h c11
        refine lv_iconst (v := (0 : Int32)) hx hb d_Wi_divide_156 (by decide) ?_
        exact w_Wi_divide_157 o C0 r10 x8 x9 x11 (0 : Int32) h H locs ls hw (lv_sub hl [0, 2, 3, 4] rfl)
      · have h := ok_f h c11
        refine lv_iconst (v := (1 : Int32)) hx hb d_Wi_divide_152 (by decide) ?_
        refine lv_goto (tgt := 157) hx hb d_Wi_divide_153 (by decide) ?_
        exact w_Wi_divide_157 o C0 r10 x8 x9 x11 (1 : Int32) h H locs ls hw (lv_sub hl [0, 2, 3, 4] rfl)
    · have h := ok_t h c9
      exact w_Wi_divide_128 o C0 q h H locs ls hw (lv_sub hl [] rfl)
set_option maxHeartbeats 4000000 in
set_option maxRecDepth 100000 in
theorem w_Wi_divide_106 {p : Program} {l : Launch} {e : Env} {s : State} {m : MethodId} {args : Array Value} {below : List Frame} {meth : Method} {c : Code} {D : va_G} {A : Nat → Prop} {ad : Nat → Nat} {ca : Nat → ClassId} (o : (Int32 × z_Sg)) (C0 : z_cx z_RWi b_Wi_divide 22 (some .boolean) D (z_Kt ca) A p s m args meth c) (q : z_Sg) (x7 : Int32) (x8 : Int32) (x9 : Int64) (x11 : Int32) (x12 : Int32) (x13 : Int64) (x17 : Int64) (t0 : Int64) (h : k_Wi_divide_106 x7 x8 x9 x11 x12 x13 x17 t0 q = some o) : ∀ (H : Heap) (locs : List Loc) (ls : Array Slot), z_wd D (z_K ad ca q) A s H locs → lv_has ls 22 [(0, .ref (ad 10)), (7, .int x7), (8, .int x8), (9, .long x9), (11, .int x11), (12, .int x12), (13, .long x13), (17, .long x17)] → W p l e (z_rm 2 56) s m args below meth c H locs 0 0 (z_qi below D (z_Kt ca) (z_K ad ca o.2) A s args o.1) (F0 m 106 ls [.long t0]) := by
  obtain ⟨hx, hb, hr, hlk, hml, hown, hts, hK, hA⟩ := id C0
  intro H locs ls hw hl
  refine lv_lload hx hb d_Wi_divide_106 (lv_at hl 3 rfl) ?_
  refine lv_land hx hb d_Wi_divide_108 ?_
  obtain ⟨n24, en24, h⟩ := ok_n h
  refine z_tl en24 ?_
  refine lv_lstore (lv' := [(15, .long n24), (0, .ref (ad 10)), (7, .int x7), (8, .int x8), (9, .long x9), (11, .int x11), (12, .int x12), (13, .long x13), (17, .long x17)]) hx hb d_Wi_divide_109 hl (by decide) rfl (fun ls hl => ?_)
  exact w_Wi_divide_111 o C0 q x7 x8 x9 x11 x12 x13 n24 x17 h H locs ls hw (lv_sub hl [1, 2, 3, 4, 5, 6, 7, 0, 8] rfl)
set_option maxHeartbeats 4000000 in
set_option maxRecDepth 100000 in
theorem w_Wi_divide_67 {p : Program} {l : Launch} {e : Env} {s : State} {m : MethodId} {args : Array Value} {below : List Frame} {meth : Method} {c : Code} {D : va_G} {A : Nat → Prop} {ad : Nat → Nat} {ca : Nat → ClassId} (o : (Int32 × z_Sg)) (C0 : z_cx z_RWi b_Wi_divide 22 (some .boolean) D (z_Kt ca) A p s m args meth c) (q : z_Sg) (x1 : Int64) (x3 : Int64) (x7 : Int32) (x8 : Int32) (x9 : Int64) (x11 : Int32) (x12 : Int32) (t0 : Int64) (h : k_Wi_divide_67 x1 x3 x7 x8 x9 x11 x12 t0 q = some o) : ∀ (H : Heap) (locs : List Loc) (ls : Array Slot), z_wd D (z_K ad ca q) A s H locs → lv_has ls 22 [(0, .ref (ad 10)), (1, .long x1), (3, .long x3), (7, .int x7), (8, .int x8), (9, .long x9), (11, .int x11), (12, .int x12)] → W p l e (z_rm 2 56) s m args below meth c H locs 0 0 (z_qi below D (z_Kt ca) (z_K ad ca o.2) A s args o.1) (F0 m 67 ls [.long t0]) := by
  obtain ⟨hx, hb, hr, hlk, hml, hown, hts, hK, hA⟩ := id C0
  intro H locs ls hw hl
  refine lv_lload hx hb d_Wi_divide_67 (lv_at hl 5 rfl) ?_
  refine lv_land hx hb d_Wi_divide_69 ?_
  obtain ⟨n5, en5, h⟩ := ok_n h
  refine z_tl en5 ?_
  refine lv_lstore (lv' := [(13, .long n5), (0, .ref (ad 10)), (1, .long x1), (3, .long x3), (7, .int x7), (8, .int x8), (9, .long x9), (11, .int x11), (12, .int x12)]) hx hb d_Wi_divide_70 hl (by decide) rfl (fun ls hl => ?_)
  refine lv_lload_n hx hb d_Wi_divide_72 rfl (lv_at hl 2 rfl) ?_
  refine lv_lstore (lv' := [(15, .long x1), (13, .long n5), (0, .ref (ad 10)), (1, .long x1), (3, .long x3), (7, .int x7), (8, .int x8), (9, .long x9), (11, .int x11), (12, .int x12)]) hx hb d_Wi_divide_73 hl (by decide) rfl (fun ls hl => ?_)
  refine lv_lload_n hx hb d_Wi_divide_75 rfl (lv_at hl 4 rfl) ?_
  refine lv_lstore (lv' := [(17, .long x3), (15, .long x1), (13, .long n5), (0, .ref (ad 10)), (1, .long x1), (3, .long x3), (7, .int x7), (8, .int x8), (9, .long x9), (11, .int x11), (12, .int x12)]) hx hb d_Wi_divide_76 hl (by decide) rfl (fun ls hl => ?_)
  refine lv_iload hx hb d_Wi_divide_78 (lv_at hl 9 rfl) ?_
  refine lv_if_eq (tgt := 111) hx hb d_Wi_divide_80 (by decide) (fun c6 => ?_) (fun c6 => ?_)
  · have h := ok_t h c6
    exact w_Wi_divide_111 o C0 q x7 x8 x9 x11 x12 n5 x1 x3 h H locs ls hw (lv_sub hl [3, 6, 7, 8, 9, 10, 2, 1, 0] rfl)
  · have h := ok_f h c6
    refine lv_lload_n hx hb d_Wi_divide_83 rfl (lv_at hl 5 rfl) ?_
    refine lv_lneg hx hb d_Wi_divide_84 ?_
    refine lv_lload hx hb d_Wi_divide_85 (lv_at hl 8 rfl) ?_
    refine lv_land hx hb d_Wi_divide_87 ?_
    obtain ⟨n22, en22, h⟩ := ok_n h
    refine z_tl en22 ?_
    refine lv_lstore (lv' := [(17, .long n22), (15, .long x1), (13, .long n5), (0, .ref (ad 10)), (1, .long x1), (3, .long x3), (7, .int x7), (8, .int x8), (9, .long x9), (11, .int x11), (12, .int x12)]) hx hb d_Wi_divide_88 hl (by decide) rfl (fun ls hl => ?_)
    refine lv_lload_n hx hb d_Wi_divide_90 rfl (lv_at hl 5 rfl) ?_
    refine lv_lconst (v := (0 : Int64)) hx hb d_Wi_divide_91 (by decide) ?_
    refine W.lcmp hx hb d_Wi_divide_92 ?_
    refine lv_if_ne (tgt := 101) hx hb d_Wi_divide_93 (by decide) (fun c23 => ?_) (fun c23 => ?_)
    · have h := ok_f h (fun z => c23 ((lg_cmp_eq _ _).mpr z))
      refine lv_lload_n hx hb d_Wi_divide_101 rfl (lv_at hl 4 rfl) ?_
      refine lv_ldc2 (own := z_RWi) hx hb hown (hts _ kl_Wi_42) d_Wi_divide_102 ?_
      refine lv_lxor hx hb d_Wi_divide_105 ?_
      exact w_Wi_divide_106 o C0 q x7 x8 x9 x11 x12 n5 n22 (x1 ^^^ (-1 : Int64)) h H locs ls hw (lv_sub hl [3, 6, 7, 8, 9, 10, 2, 0] rfl)
    · have h := ok_t h ((lg_cmp_eq _ _).mp c23)
      refine lv_lload_n hx hb d_Wi_divide_96 rfl (lv_at hl 4 rfl) ?_
      refine lv_lneg hx hb d_Wi_divide_97 ?_
      refine lv_goto (tgt := 106) hx hb d_Wi_divide_98 (by decide) ?_
      exact w_Wi_divide_106 o C0 q x7 x8 x9 x11 x12 n5 n22 (-x1) h H locs ls hw (lv_sub hl [3, 6, 7, 8, 9, 10, 2, 0] rfl)
set_option maxHeartbeats 4000000 in
set_option maxRecDepth 100000 in
theorem w_Wi_divide_52 {p : Program} {l : Launch} {e : Env} {s : State} {m : MethodId} {args : Array Value} {below : List Frame} {meth : Method} {c : Code} {D : va_G} {A : Nat → Prop} {ad : Nat → Nat} {ca : Nat → ClassId} (o : (Int32 × z_Sg)) (C0 : z_cx z_RWi b_Wi_divide 22 (some .boolean) D (z_Kt ca) A p s m args meth c) (q : z_Sg) (x1 : Int64) (x3 : Int64) (x5 : Int64) (x7 : Int32) (x8 : Int32) (x9 : Int64) (x11 : Int32) (t0 : Int32) (h : k_Wi_divide_52 x1 x3 x5 x7 x8 x9 x11 t0 q = some o) : ∀ (H : Heap) (locs : List Loc) (ls : Array Slot), z_wd D (z_K ad ca q) A s H locs → lv_has ls 22 [(0, .ref (ad 10)), (1, .long x1), (3, .long x3), (5, .long x5), (7, .int x7), (8, .int x8), (9, .long x9), (11, .int x11)] → W p l e (z_rm 2 56) s m args below meth c H locs 0 0 (z_qi below D (z_Kt ca) (z_K ad ca o.2) A s args o.1) (F0 m 52 ls [.int t0]) := by
  obtain ⟨hx, hb, hr, hlk, hml, hown, hts, hK, hA⟩ := id C0
  intro H locs ls hw hl
  refine lv_istore (lv' := [(12, .int t0), (0, .ref (ad 10)), (1, .long x1), (3, .long x3), (5, .long x5), (7, .int x7), (8, .int x8), (9, .long x9), (11, .int x11)]) hx hb d_Wi_divide_52 hl (by decide) rfl (fun ls hl => ?_)
  refine lv_iload hx hb d_Wi_divide_54 (lv_at hl 0 rfl) ?_
  refine lv_if_eq (tgt := 65) hx hb d_Wi_divide_56 (by decide) (fun c4 => ?_) (fun c4 => ?_)
  · have h := ok_t h c4
    refine lv_lload hx hb d_Wi_divide_65 (lv_at hl 4 rfl) ?_
    exact w_Wi_divide_67 o C0 q x1 x3 x7 x8 x9 x11 t0 x5 h H locs ls hw (lv_sub hl [1, 2, 3, 5, 6, 7, 8, 0] rfl)
  · have h := ok_f h c4
    refine lv_lload hx hb d_Wi_divide_59 (lv_at hl 4 rfl) ?_
    refine lv_lneg hx hb d_Wi_divide_61 ?_
    refine lv_goto (tgt := 67) hx hb d_Wi_divide_62 (by decide) ?_
    exact w_Wi_divide_67 o C0 q x1 x3 x7 x8 x9 x11 t0 (-x5) h H locs ls hw (lv_sub hl [1, 2, 3, 5, 6, 7, 8, 0] rfl)
set_option maxHeartbeats 4000000 in
set_option maxRecDepth 100000 in
theorem w_Wi_divide_51 {p : Program} {l : Launch} {e : Env} {s : State} {m : MethodId} {args : Array Value} {below : List Frame} {meth : Method} {c : Code} {D : va_G} {A : Nat → Prop} {ad : Nat → Nat} {ca : Nat → ClassId} (o : (Int32 × z_Sg)) (C0 : z_cx z_RWi b_Wi_divide 22 (some .boolean) D (z_Kt ca) A p s m args meth c) (q : z_Sg) (x1 : Int64) (x3 : Int64) (x5 : Int64) (x7 : Int32) (x8 : Int32) (x9 : Int64) (x11 : Int32) (h : k_Wi_divide_51 x1 x3 x5 x7 x8 x9 x11 q = some o) : ∀ (H : Heap) (locs : List Loc) (ls : Array Slot), z_wd D (z_K ad ca q) A s H locs → lv_has ls 22 [(0, .ref (ad 10)), (1, .long x1), (3, .long x3), (5, .long x5), (7, .int x7), (8, .int x8), (9, .long x9), (11, .int x11)] → W p l e (z_rm 2 56) s m args below meth c H locs 0 0 (z_qi below D (z_Kt ca) (z_K ad ca o.2) A s args o.1) (F0 m 51 ls []) := by
  obtain ⟨hx, hb, hr, hlk, hml, hown, hts, hK, hA⟩ := id C0
  intro H locs ls hw hl
  refine lv_iconst (v := (0 : Int32)) hx hb d_Wi_divide_51 (by decide) ?_
  exact w_Wi_divide_52 o C0 q x1 x3 x5 x7 x8 x9 x11 (0 : Int32) h H locs ls hw (lv_sub hl [0, 1, 2, 3, 4, 5, 6, 7] rfl)
set_option maxHeartbeats 4000000 in
set_option maxRecDepth 100000 in
theorem w_Wi_divide_28 {p : Program} {l : Launch} {e : Env} {s : State} {m : MethodId} {args : Array Value} {below : List Frame} {meth : Method} {c : Code} {D : va_G} {A : Nat → Prop} {ad : Nat → Nat} {ca : Nat → ClassId} (o : (Int32 × z_Sg)) (C0 : z_cx z_RWi b_Wi_divide 22 (some .boolean) D (z_Kt ca) A p s m args meth c) (q : z_Sg) (x1 : Int64) (x3 : Int64) (x5 : Int64) (x7 : Int32) (x8 : Int32) (x9 : Int64) (t0 : Int32) (h : k_Wi_divide_28 x1 x3 x5 x7 x8 x9 t0 q = some o) : ∀ (H : Heap) (locs : List Loc) (ls : Array Slot), z_wd D (z_K ad ca q) A s H locs → lv_has ls 22 [(0, .ref (ad 10)), (1, .long x1), (3, .long x3), (5, .long x5), (7, .int x7), (8, .int x8), (9, .long x9)] → W p l e (z_rm 2 56) s m args below meth c H locs 0 0 (z_qi below D (z_Kt ca) (z_K ad ca o.2) A s args o.1) (F0 m 28 ls [.int t0]) := by
  obtain ⟨hx, hb, hr, hlk, hml, hown, hts, hK, hA⟩ := id C0
  intro H locs ls hw hl
  refine lv_istore (lv' := [(11, .int t0), (0, .ref (ad 10)), (1, .long x1), (3, .long x3), (5, .long x5), (7, .int x7), (8, .int x8), (9, .long x9)]) hx hb d_Wi_divide_28 hl (by decide) rfl (fun ls hl => ?_)
  refine lv_iload hx hb d_Wi_divide_30 (lv_at hl 6 rfl) ?_
  refine lv_if_eq (tgt := 51) hx hb d_Wi_divide_32 (by decide) (fun c3 => ?_) (fun c3 => ?_)
  · have h := ok_t h c3
    exact w_Wi_divide_51 o C0 q x1 x3 x5 x7 x8 x9 t0 h H locs ls hw (lv_sub hl [1, 2, 3, 4, 5, 6, 7, 0] rfl)
  · have h := ok_f h c3
    refine lv_lload hx hb d_Wi_divide_35 (lv_at hl 4 rfl) ?_
    refine lv_iload hx hb d_Wi_divide_37 (lv_at hl 5 rfl) ?_
    obtain ⟨r25, er25, h⟩ := ok_b h
    refine z_sl (rest := []) C0 hw (c_Ar_signed x5 x7 q r25 er25) mw_Ar_signed ml_Wi_26 ⟨Nat.le_of_ble_eq_true rfl, Nat.le_of_ble_eq_true rfl⟩ ⟨Nat.le_refl 0, Nat.le_refl 0⟩ rfl hl.1 rfl (Nat.le_of_ble_eq_true rfl) d_Wi_divide_39 (fun H locs hw => ?_)
    refine lv_lconst (v := (0 : Int64)) hx hb d_Wi_divide_42 (by decide) ?_
    refine W.lcmp hx hb d_Wi_divide_43 ?_
    refine lv_if_ge (tgt := 51) hx hb d_Wi_divide_44 (by decide) (fun c26 => ?_) (fun c26 => ?_)
    · have h := ok_t h ((lg_cmp_ge _ _).mp c26)
      exact w_Wi_divide_51 o C0 q x1 x3 x5 x7 x8 x9 t0 h H locs ls hw (lv_sub hl [1, 2, 3, 4, 5, 6, 7, 0] rfl)
    · have h := ok_f h (fun z => c26 ((lg_cmp_ge _ _).mpr z))
      refine lv_iconst (v := (1 : Int32)) hx hb d_Wi_divide_47 (by decide) ?_
      refine lv_goto (tgt := 52) hx hb d_Wi_divide_48 (by decide) ?_
      exact w_Wi_divide_52 o C0 q x1 x3 x5 x7 x8 x9 t0 (1 : Int32) h H locs ls hw (lv_sub hl [1, 2, 3, 4, 5, 6, 7, 0] rfl)
set_option maxHeartbeats 4000000 in
set_option maxRecDepth 100000 in
theorem w_Wi_divide_27 {p : Program} {l : Launch} {e : Env} {s : State} {m : MethodId} {args : Array Value} {below : List Frame} {meth : Method} {c : Code} {D : va_G} {A : Nat → Prop} {ad : Nat → Nat} {ca : Nat → ClassId} (o : (Int32 × z_Sg)) (C0 : z_cx z_RWi b_Wi_divide 22 (some .boolean) D (z_Kt ca) A p s m args meth c) (q : z_Sg) (x1 : Int64) (x3 : Int64) (x5 : Int64) (x7 : Int32) (x8 : Int32) (x9 : Int64) (h : k_Wi_divide_27 x1 x3 x5 x7 x8 x9 q = some o) : ∀ (H : Heap) (locs : List Loc) (ls : Array Slot), z_wd D (z_K ad ca q) A s H locs → lv_has ls 22 [(0, .ref (ad 10)), (1, .long x1), (3, .long x3), (5, .long x5), (7, .int x7), (8, .int x8), (9, .long x9)] → W p l e (z_rm 2 56) s m args below meth c H locs 0 0 (z_qi below D (z_Kt ca) (z_K ad ca o.2) A s args o.1) (F0 m 27 ls []) := by
  obtain ⟨hx, hb, hr, hlk, hml, hown, hts, hK, hA⟩ := id C0
  intro H locs ls hw hl
  refine lv_iconst (v := (0 : Int32)) hx hb d_Wi_divide_27 (by decide) ?_
  exact w_Wi_divide_28 o C0 q x1 x3 x5 x7 x8 x9 (0 : Int32) h H locs ls hw (lv_sub hl [0, 1, 2, 3, 4, 5, 6] rfl)
set_option maxHeartbeats 4000000 in
set_option maxRecDepth 100000 in
theorem c_Wi_divide {l : Launch} {D : va_G} {ad : Nat → Nat} {ca : Nat → ClassId} (x1 : Int64) (x3 : Int64) (x5 : Int64) (x7 : Int32) (x8 : Int32) (q : z_Sg) (o : (Int32 × z_Sg)) (h : f_Wi_divide x1 x3 x5 x7 x8 q = some o) : z_ci l y_Wi_divide b_Wi_divide 22 (some .boolean) 2 56 D (z_Kt ca) (z_K ad ca q) (z_K ad ca o.2) [.ref (ad 10), .long x1, .long x3, .long x5, .int x7, .int x8] o.1 := by
  refine z_ci_of (own := z_RWi) (by decide) rfl ?_
  intro p e s m below meth c A C0 hw
  obtain ⟨hx, hb, hr, hlk, hml, hown, hts, hK, hA⟩ := id C0
  generalize hH : s.heap = H at hw ⊢
  generalize hlo : ([] : List Loc) = locs at hw ⊢
  refine z_entry (lv := [(0, .ref (ad 10)), (1, .long x1), (3, .long x3), (5, .long x5), (7, .int x7), (8, .int x8)]) (Nat.le_of_ble_eq_true rfl) rfl (fun ls hl => ?_)
  unfold f_Wi_divide at h
  refine lv_iload hx hb d_Wi_divide_0 (lv_at hl 4 rfl) ?_
  obtain ⟨r1, er1, h⟩ := ok_b h
  refine z_sl (rest := []) C0 hw (c_Ar_maskOf x7 q r1 er1) mw_Ar_maskOf ml_Wi_32 ⟨Nat.le_of_ble_eq_true rfl, Nat.le_of_ble_eq_true rfl⟩ ⟨Nat.le_refl 0, Nat.le_refl 0⟩ rfl hl.1 rfl (Nat.le_of_ble_eq_true rfl) d_Wi_divide_2 (fun H locs hw => ?_)
  refine lv_lstore (lv' := [(9, .long r1), (0, .ref (ad 10)), (1, .long x1), (3, .long x3), (5, .long x5), (7, .int x7), (8, .int x8)]) hx hb d_Wi_divide_5 hl (by decide) rfl (fun ls hl => ?_)
  refine lv_iload hx hb d_Wi_divide_7 (lv_at hl 6 rfl) ?_
  refine lv_if_eq (tgt := 27) hx hb d_Wi_divide_9 (by decide) (fun c2 => ?_) (fun c2 => ?_)
  · have h := ok_t h c2
    exact w_Wi_divide_27 o C0 q x1 x3 x5 x7 x8 r1 h H locs ls hw (lv_sub hl [1, 2, 3, 4, 5, 6, 0] rfl)
  · have h := ok_f h c2
    refine lv_lload_n hx hb d_Wi_divide_12 rfl (lv_at hl 2 rfl) ?_
    refine lv_iload hx hb d_Wi_divide_13 (lv_at hl 5 rfl) ?_
    obtain ⟨r27, er27, h⟩ := ok_b h
    refine z_sl (rest := []) C0 hw (c_Ar_signed x1 x7 q r27 er27) mw_Ar_signed ml_Wi_26 ⟨Nat.le_of_ble_eq_true rfl, Nat.le_of_ble_eq_true rfl⟩ ⟨Nat.le_refl 0, Nat.le_refl 0⟩ rfl hl.1 rfl (Nat.le_of_ble_eq_true rfl) d_Wi_divide_15 (fun H locs hw => ?_)
    refine lv_lconst (v := (0 : Int64)) hx hb d_Wi_divide_18 (by decide) ?_
    refine W.lcmp hx hb d_Wi_divide_19 ?_
    refine lv_if_ge (tgt := 27) hx hb d_Wi_divide_20 (by decide) (fun c28 => ?_) (fun c28 => ?_)
    · have h := ok_t h ((lg_cmp_ge _ _).mp c28)
      exact w_Wi_divide_27 o C0 q x1 x3 x5 x7 x8 r1 h H locs ls hw (lv_sub hl [1, 2, 3, 4, 5, 6, 0] rfl)
    · have h := ok_f h (fun z => c28 ((lg_cmp_ge _ _).mpr z))
      refine lv_iconst (v := (1 : Int32)) hx hb d_Wi_divide_23 (by decide) ?_
      refine lv_goto (tgt := 28) hx hb d_Wi_divide_24 (by decide) ?_
      exact w_Wi_divide_28 o C0 q x1 x3 x5 x7 x8 r1 (1 : Int32) h H locs ls hw (lv_sub hl [1, 2, 3, 4, 5, 6, 0] rfl)
def f_On_putHalves (x1 : Int32) (q : z_Sg) : Option z_Sg :=
  if x1 = (1 : Int32) then ((f_Op_putPart (0 : Int32) ((z_lshl (z_gL q 12) (8 : Int32)) ||| (z_gL q 11)) (2 : Int32) q).bind (fun r4 => some r4)) else ((f_Op_putPart (0 : Int32) (z_gL q 11) x1 q).bind (fun r2 => (f_Op_putPart (2 : Int32) (z_gL r2 12) x1 r2).bind (fun r3 => some r3)))
set_option maxHeartbeats 4000000 in
set_option maxRecDepth 100000 in
theorem c_On_putHalves {l : Launch} {D : va_G} {ad : Nat → Nat} {ca : Nat → ClassId} (x1 : Int32) (q : z_Sg) (o : z_Sg) (h : f_On_putHalves x1 q = some o) : z_cv l y_On_putHalves b_On_putHalves 2 none 2 50 D (z_Kt ca) (z_K ad ca q) (z_K ad ca o) [.ref (ad 19), .int x1] := by
  refine z_cv_of (own := z_ROn) (by decide) rfl ?_
  intro p e s m below meth c A C0 hw
  obtain ⟨hx, hb, hr, hlk, hml, hown, hts, hK, hA⟩ := id C0
  generalize hH : s.heap = H at hw ⊢
  generalize hlo : ([] : List Loc) = locs at hw ⊢
  refine z_entry (lv := [(0, .ref (ad 19)), (1, .int x1)]) (Nat.le_of_ble_eq_true rfl) rfl (fun ls hl => ?_)
  unfold f_On_putHalves at h
  refine lv_iload_n hx hb d_On_putHalves_0 rfl (lv_at hl 1 rfl) ?_
  refine lv_iconst (v := (1 : Int32)) hx hb d_On_putHalves_1 (by decide) ?_
  refine lv_icmp_ne (tgt := 33) hx hb d_On_putHalves_2 (by decide) (fun c1 => ?_) (fun c1 => ?_)
  · have h := ok_f h c1
    refine lv_aload_n hx hb d_On_putHalves_33 rfl (lv_at hl 0 rfl) ?_
    refine gfK_19_operands C0 hw fl_On_19 d_On_putHalves_34 ?_
    refine lv_iconst (v := (0 : Int32)) hx hb d_On_putHalves_37 (by decide) ?_
    refine lv_aload_n hx hb d_On_putHalves_38 rfl (lv_at hl 0 rfl) ?_
    refine gfK_19_wide C0 hw fl_On_27 d_On_putHalves_39 ?_
    refine gfK_10_low C0 hw fl_On_109 d_On_putHalves_42 ?_
    refine lv_iload_n hx hb d_On_putHalves_45 rfl (lv_at hl 1 rfl) ?_
    obtain ⟨r2, er2, h⟩ := ok_b h
    refine z_vv (rest := []) C0 hw (c_Op_putPart (0 : Int32) (z_gL q 11) x1 q r2 er2) mw_Op_putPart ml_On_48 6 rfl ⟨Nat.le_of_ble_eq_true rfl, Nat.le_of_ble_eq_true rfl⟩ ⟨Nat.le_refl 0, Nat.le_refl 0⟩ rfl hl.1 rfl (Nat.le_of_ble_eq_true rfl) d_On_putHalves_46 (fun H locs hw => ?_)
    refine lv_aload_n hx hb d_On_putHalves_49 rfl (lv_at hl 0 rfl) ?_
    refine gfK_19_operands C0 hw fl_On_19 d_On_putHalves_50 ?_
    refine lv_iconst (v := (2 : Int32)) hx hb d_On_putHalves_53 (by decide) ?_
    refine lv_aload_n hx hb d_On_putHalves_54 rfl (lv_at hl 0 rfl) ?_
    refine gfK_19_wide C0 hw fl_On_27 d_On_putHalves_55 ?_
    refine gfK_10_high C0 hw fl_On_168 d_On_putHalves_58 ?_
    refine lv_iload_n hx hb d_On_putHalves_61 rfl (lv_at hl 1 rfl) ?_
    obtain ⟨r3, er3, h⟩ := ok_b h
    refine z_vv (rest := []) C0 hw (c_Op_putPart (2 : Int32) (z_gL r2 12) x1 r2 r3 er3) mw_Op_putPart ml_On_48 6 rfl ⟨Nat.le_of_ble_eq_true rfl, Nat.le_of_ble_eq_true rfl⟩ ⟨Nat.le_refl 0, Nat.le_refl 0⟩ rfl hl.1 rfl (Nat.le_of_ble_eq_true rfl) d_On_putHalves_62 (fun H locs hw => ?_)
    have ho := Option.some.inj h
    subst ho
    exact z_rtv C0 hw d_On_putHalves_65
  · have h := ok_t h c1
    refine lv_aload_n hx hb d_On_putHalves_5 rfl (lv_at hl 0 rfl) ?_
    refine gfK_19_operands C0 hw fl_On_19 d_On_putHalves_6 ?_
    refine lv_iconst (v := (0 : Int32)) hx hb d_On_putHalves_9 (by decide) ?_
    refine lv_aload_n hx hb d_On_putHalves_10 rfl (lv_at hl 0 rfl) ?_
    refine gfK_19_wide C0 hw fl_On_27 d_On_putHalves_11 ?_
    refine gfK_10_high C0 hw fl_On_168 d_On_putHalves_14 ?_
    refine lv_bipush (v := (8 : Int32)) hx hb d_On_putHalves_17 (by decide) ?_
    refine lv_lshl (v := (z_lshl (z_gL q 12) (8 : Int32))) hx hb d_On_putHalves_19 rfl ?_
    refine lv_aload_n hx hb d_On_putHalves_20 rfl (lv_at hl 0 rfl) ?_
    refine gfK_19_wide C0 hw fl_On_27 d_On_putHalves_21 ?_
    refine gfK_10_low C0 hw fl_On_109 d_On_putHalves_24 ?_
    refine lv_lor hx hb d_On_putHalves_27 ?_
    refine lv_iconst (v := (2 : Int32)) hx hb d_On_putHalves_28 (by decide) ?_
    obtain ⟨r4, er4, h⟩ := ok_b h
    refine z_vv (rest := []) C0 hw (c_Op_putPart (0 : Int32) ((z_lshl (z_gL q 12) (8 : Int32)) ||| (z_gL q 11)) (2 : Int32) q r4 er4) mw_Op_putPart ml_On_48 6 rfl ⟨Nat.le_of_ble_eq_true rfl, Nat.le_of_ble_eq_true rfl⟩ ⟨Nat.le_refl 0, Nat.le_refl 0⟩ rfl hl.1 rfl (Nat.le_of_ble_eq_true rfl) d_On_putHalves_29 (fun H locs hw => ?_)
    have ho := Option.some.inj h
    subst ho
    exact z_rtv C0 hw d_On_putHalves_32
def k_On_divideBy_69 (x3 : Int32) (t1 : Int64) (t2 : Int64) (t3 : Int64) (t4 : Int32) (t5 : Int32) (q : z_Sg) : Option (Int32 × z_Sg) :=
  (f_Wi_divide t1 t2 t3 t4 t5 q).bind (fun r5 => if r5.1 = 0 then (some ((0 : Int32), r5.2)) else ((f_On_putHalves x3 r5.2).bind (fun r7 => some ((-1 : Int32), r7))))
def k_On_divideBy_33 (x1 : Int64) (x3 : Int32) (t0 : Int64) (q : z_Sg) : Option (Int32 × z_Sg) :=
  (f_Op_part (0 : Int32) x3 q).bind (fun r3 => if (z_gI q 13) = (7 : Int32) then (k_On_divideBy_69 x3 t0 r3 x1 x3 (1 : Int32) q) else (k_On_divideBy_69 x3 t0 r3 x1 x3 (0 : Int32) q))
def f_On_divideBy (x1 : Int64) (x3 : Int32) (q : z_Sg) : Option (Int32 × z_Sg) :=
  if x3 = (1 : Int32) then (if z_bad (0 : Int32) 16 then none else (k_On_divideBy_33 x1 x3 ((z_lushr (z_gM q 0 (0 : Int32).toNatClampNeg) (8 : Int32)) &&& (255 : Int64)) q)) else ((f_Op_part (2 : Int32) x3 q).bind (fun r2 => k_On_divideBy_33 x1 x3 r2 q))
set_option maxHeartbeats 4000000 in
set_option maxRecDepth 100000 in
theorem w_On_divideBy_69 {p : Program} {l : Launch} {e : Env} {s : State} {m : MethodId} {args : Array Value} {below : List Frame} {meth : Method} {c : Code} {D : va_G} {A : Nat → Prop} {ad : Nat → Nat} {ca : Nat → ClassId} (o : (Int32 × z_Sg)) (C0 : z_cx z_ROn b_On_divideBy 6 (some .int) D (z_Kt ca) A p s m args meth c) (q : z_Sg) (x3 : Int32) (t1 : Int64) (t2 : Int64) (t3 : Int64) (t4 : Int32) (t5 : Int32) (h : k_On_divideBy_69 x3 t1 t2 t3 t4 t5 q = some o) : ∀ (H : Heap) (locs : List Loc) (ls : Array Slot), z_wd D (z_K ad ca q) A s H locs → lv_has ls 6 [(0, .ref (ad 19)), (3, .int x3)] → W p l e (z_rm 3 97) s m args below meth c H locs 0 0 (z_qi below D (z_Kt ca) (z_K ad ca o.2) A s args o.1) (F0 m 69 ls [.int t5, .int t4, .long t3, .long t2, .long t1, .ref (ad 10)]) := by
  obtain ⟨hx, hb, hr, hlk, hml, hown, hts, hK, hA⟩ := id C0
  intro H locs ls hw hl
  obtain ⟨r5, er5, h⟩ := ok_b h
  refine z_vi (rest := []) C0 hw (c_Wi_divide t1 t2 t3 t4 t5 q r5 er5) mw_Wi_divide ml_On_164 10 rfl ⟨Nat.le_of_ble_eq_true rfl, Nat.le_of_ble_eq_true rfl⟩ ⟨Nat.le_refl 0, Nat.le_refl 0⟩ rfl hl.1 rfl (Nat.le_of_ble_eq_true rfl) d_On_divideBy_69 (fun H locs hw => ?_)
  refine lv_if_ne (tgt := 77) hx hb d_On_divideBy_72 (by decide) (fun c6 => ?_) (fun c6 => ?_)
  · have h := ok_f h c6
    refine lv_aload_n hx hb d_On_divideBy_77 rfl (lv_at hl 0 rfl) ?_
    refine lv_iload_n hx hb d_On_divideBy_78 rfl (lv_at hl 1 rfl) ?_
    obtain ⟨r7, er7, h⟩ := ok_b h
    refine z_vv (rest := []) C0 hw (c_On_putHalves x3 r5.2 r7 er7) mw_On_putHalves ml_On_155 19 rfl ⟨Nat.le_of_ble_eq_true rfl, Nat.le_of_ble_eq_true rfl⟩ ⟨Nat.le_refl 0, Nat.le_refl 0⟩ rfl hl.1 rfl (Nat.le_of_ble_eq_true rfl) d_On_divideBy_79 (fun H locs hw => ?_)
    refine lv_iconst (v := (-1 : Int32)) hx hb d_On_divideBy_82 (by decide) ?_
    have ho := Option.some.inj h
    subst ho
    exact z_rti C0 hw d_On_divideBy_83
  · have h := ok_t h c6
    refine lv_iconst (v := (0 : Int32)) hx hb d_On_divideBy_75 (by decide) ?_
    have ho := Option.some.inj h
    subst ho
    exact z_rti C0 hw d_On_divideBy_76
set_option maxHeartbeats 4000000 in
set_option maxRecDepth 100000 in
theorem w_On_divideBy_33 {p : Program} {l : Launch} {e : Env} {s : State} {m : MethodId} {args : Array Value} {below : List Frame} {meth : Method} {c : Code} {D : va_G} {A : Nat → Prop} {ad : Nat → Nat} {ca : Nat → ClassId} (o : (Int32 × z_Sg)) (C0 : z_cx z_ROn b_On_divideBy 6 (some .int) D (z_Kt ca) A p s m args meth c) (q : z_Sg) (x1 : Int64) (x3 : Int32) (t0 : Int64) (h : k_On_divideBy_33 x1 x3 t0 q = some o) : ∀ (H : Heap) (locs : List Loc) (ls : Array Slot), z_wd D (z_K ad ca q) A s H locs → lv_has ls 6 [(0, .ref (ad 19)), (1, .long x1), (3, .int x3)] → W p l e (z_rm 3 97) s m args below meth c H locs 0 0 (z_qi below D (z_Kt ca) (z_K ad ca o.2) A s args o.1) (F0 m 33 ls [.long t0]) := by
  obtain ⟨hx, hb, hr, hlk, hml, hown, hts, hK, hA⟩ := id C0
  intro H locs ls hw hl
  refine lv_lstore (lv' := [(4, .long t0), (0, .ref (ad 19)), (1, .long x1), (3, .int x3)]) hx hb d_On_divideBy_33 hl (by decide) rfl (fun ls hl => ?_)
  refine lv_aload_n hx hb d_On_divideBy_35 rfl (lv_at hl 1 rfl) ?_
  refine gfK_19_wide C0 hw fl_On_27 d_On_divideBy_36 ?_
  refine lv_lload hx hb d_On_divideBy_39 (lv_at hl 0 rfl) ?_
  refine lv_aload_n hx hb d_On_divideBy_41 rfl (lv_at hl 1 rfl) ?_
  refine gfK_19_operands C0 hw fl_On_19 d_On_divideBy_42 ?_
  refine lv_iconst (v := (0 : Int32)) hx hb d_On_divideBy_45 (by decide) ?_
  refine lv_iload_n hx hb d_On_divideBy_46 rfl (lv_at hl 3 rfl) ?_
  obtain ⟨r3, er3, h⟩ := ok_b h
  refine z_vl (rest := [.long t0, .ref (ad 10)]) C0 hw (c_Op_part (0 : Int32) x3 q r3 er3) mw_Op_part ml_On_78 6 rfl ⟨Nat.le_of_ble_eq_true rfl, Nat.le_of_ble_eq_true rfl⟩ ⟨Nat.le_refl 0, Nat.le_refl 0⟩ rfl hl.1 rfl (Nat.le_of_ble_eq_true rfl) d_On_divideBy_47 (fun H locs hw => ?_)
  refine lv_lload_n hx hb d_On_divideBy_50 rfl (lv_at hl 2 rfl) ?_
  refine lv_iload_n hx hb d_On_divideBy_51 rfl (lv_at hl 3 rfl) ?_
  refine lv_aload_n hx hb d_On_divideBy_52 rfl (lv_at hl 1 rfl) ?_
  refine gfK_19_code C0 hw fl_On_15 d_On_divideBy_53 ?_
  refine gfK_5_reg C0 hw fl_On_64 d_On_divideBy_56 ?_
  refine lv_bipush (v := (7 : Int32)) hx hb d_On_divideBy_59 (by decide) ?_
  refine lv_icmp_ne (tgt := 68) hx hb d_On_divideBy_61 (by decide) (fun c4 => ?_) (fun c4 => ?_)
  · have h := ok_f h c4
    refine lv_iconst (v := (0 : Int32)) hx hb d_On_divideBy_68 (by decide) ?_
    exact w_On_divideBy_69 o C0 q x3 t0 r3 x1 x3 (0 : Int32) h H locs ls hw (lv_sub hl [1, 3] rfl)
  · have h := ok_t h c4
    refine lv_iconst (v := (1 : Int32)) hx hb d_On_divideBy_64 (by decide) ?_
    refine lv_goto (tgt := 69) hx hb d_On_divideBy_65 (by decide) ?_
    exact w_On_divideBy_69 o C0 q x3 t0 r3 x1 x3 (1 : Int32) h H locs ls hw (lv_sub hl [1, 3] rfl)
set_option maxHeartbeats 4000000 in
set_option maxRecDepth 100000 in
theorem c_On_divideBy {l : Launch} {D : va_G} {ad : Nat → Nat} {ca : Nat → ClassId} (x1 : Int64) (x3 : Int32) (q : z_Sg) (o : (Int32 × z_Sg)) (h : f_On_divideBy x1 x3 q = some o) : z_ci l y_On_divideBy b_On_divideBy 6 (some .int) 3 97 D (z_Kt ca) (z_K ad ca q) (z_K ad ca o.2) [.ref (ad 19), .long x1, .int x3] o.1 := by
  refine z_ci_of (own := z_ROn) (by decide) rfl ?_
  intro p e s m below meth c A C0 hw
  obtain ⟨hx, hb, hr, hlk, hml, hown, hts, hK, hA⟩ := id C0
  generalize hH : s.heap = H at hw ⊢
  generalize hlo : ([] : List Loc) = locs at hw ⊢
  refine z_entry (lv := [(0, .ref (ad 19)), (1, .long x1), (3, .int x3)]) (Nat.le_of_ble_eq_true rfl) rfl (fun ls hl => ?_)
  unfold f_On_divideBy at h
  refine lv_iload_n hx hb d_On_divideBy_0 rfl (lv_at hl 2 rfl) ?_
  refine lv_iconst (v := (1 : Int32)) hx hb d_On_divideBy_1 (by decide) ?_
  refine lv_icmp_ne (tgt := 24) hx hb d_On_divideBy_2 (by decide) (fun c1 => ?_) (fun c1 => ?_)
  · have h := ok_f h c1
    refine lv_aload_n hx hb d_On_divideBy_24 rfl (lv_at hl 0 rfl) ?_
    refine gfK_19_operands C0 hw fl_On_19 d_On_divideBy_25 ?_
    refine lv_iconst (v := (2 : Int32)) hx hb d_On_divideBy_28 (by decide) ?_
    refine lv_iload_n hx hb d_On_divideBy_29 rfl (lv_at hl 2 rfl) ?_
    obtain ⟨r2, er2, h⟩ := ok_b h
    refine z_vl (rest := []) C0 hw (c_Op_part (2 : Int32) x3 q r2 er2) mw_Op_part ml_On_78 6 rfl ⟨Nat.le_of_ble_eq_true rfl, Nat.le_of_ble_eq_true rfl⟩ ⟨Nat.le_refl 0, Nat.le_refl 0⟩ rfl hl.1 rfl (Nat.le_of_ble_eq_true rfl) d_On_divideBy_30 (fun H locs hw => ?_)
    exact w_On_divideBy_33 o C0 q x1 x3 r2 h H locs ls hw (lv_sub hl [0, 1, 2] rfl)
  · have h := ok_t h c1
    refine lv_aload_n hx hb d_On_divideBy_5 rfl (lv_at hl 0 rfl) ?_
    refine gfK_19_state C0 hw fl_On_9 d_On_divideBy_6 ?_
    refine gfK_1_registers C0 hw fl_On_135 d_On_divideBy_9 ?_
    refine lv_iconst (v := (0 : Int32)) hx hb d_On_divideBy_12 (by decide) ?_
    obtain ⟨b8, h⟩ := ok_g h
    refine alK_2 C0 hw b8 d_On_divideBy_13 ?_
    refine lv_bipush (v := (8 : Int32)) hx hb d_On_divideBy_14 (by decide) ?_
    refine lv_lushr (v := (z_lushr (z_gM q 0 (0 : Int32).toNatClampNeg) (8 : Int32))) hx hb d_On_divideBy_16 rfl ?_
    refine lv_ldc2 (own := z_ROn) hx hb hown (hts _ kl_On_162) d_On_divideBy_17 ?_
    refine lv_land hx hb d_On_divideBy_20 ?_
    refine lv_goto (tgt := 33) hx hb d_On_divideBy_21 (by decide) ?_
    exact w_On_divideBy_33 o C0 q x1 x3 ((z_lushr (z_gM q 0 (0 : Int32).toNatClampNeg) (8 : Int32)) &&& (255 : Int64)) h H locs ls hw (lv_sub hl [0, 1, 2] rfl)
def k_On_executeByReg_166 (q : z_Sg) : Option (Int32 × z_Sg) :=
  some ((-1 : Int32), q)
def k_On_executeByReg_159 (x1 : Int32) (x2 : Int64) (q : z_Sg) : Option (Int32 × z_Sg) :=
  (f_On_divideBy x2 x1 q).bind (fun r6 => some (r6.1, r6.2))
def k_On_executeByReg_148 (x1 : Int32) (t1 : Int64) (t2 : Int64) (t3 : Int32) (t4 : Int32) (q : z_Sg) : Option (Int32 × z_Sg) :=
  (f_Wi_multiply t1 t2 t3 t4 q).bind (fun r15 => (f_On_putHalves x1 r15).bind (fun r16 => k_On_executeByReg_166 r16))
def k_On_executeByReg_117 (x1 : Int32) (x2 : Int64) (q : z_Sg) : Option (Int32 × z_Sg) :=
  (f_Op_part (0 : Int32) x1 q).bind (fun r13 => if (z_gI q 13) = (5 : Int32) then (k_On_executeByReg_148 x1 r13 x2 x1 (1 : Int32) q) else (k_On_executeByReg_148 x1 r13 x2 x1 (0 : Int32) q))
def f_On_executeByReg (q : z_Sg) : Option (Int32 × z_Sg) :=
  z_nm ((z_gI q 15)) (fun n1 => (f_Op_value q).bind (fun r2 => if (z_gI q 13) = (0 : Int32) then ((f_Ar_logic (r2 &&& (z_gL q 9)) n1 q).bind (fun r4 => k_On_executeByReg_166 r4.2)) else (if (z_gI q 13) = (1 : Int32) then (k_On_executeByReg_159 n1 r2 q) else (if (z_gI q 13) = (2 : Int32) then ((f_Op_put (r2 ^^^ (-1 : Int64)) q).bind (fun r8 => k_On_executeByReg_166 r8)) else (if (z_gI q 13) = (3 : Int32) then ((f_Ar_difference (0 : Int64) r2 (0 : Int64) n1 q).bind (fun r10 => (f_Op_put r10.1 r10.2).bind (fun r11 => k_On_executeByReg_166 r11))) else (if (z_gI q 13) = (4 : Int32) then (k_On_executeByReg_117 n1 r2 q) else (if (z_gI q 13) = (5 : Int32) then (k_On_executeByReg_117 n1 r2 q) else (k_On_executeByReg_159 n1 r2 q))))))))
set_option maxHeartbeats 4000000 in
set_option maxRecDepth 100000 in
theorem w_On_executeByReg_166 {p : Program} {l : Launch} {e : Env} {s : State} {m : MethodId} {args : Array Value} {below : List Frame} {meth : Method} {c : Code} {D : va_G} {A : Nat → Prop} {ad : Nat → Nat} {ca : Nat → ClassId} (o : (Int32 × z_Sg)) (C0 : z_cx z_ROn b_On_executeByReg 4 (some .int) D (z_Kt ca) A p s m args meth c) (q : z_Sg) (h : k_On_executeByReg_166 q = some o) : ∀ (H : Heap) (locs : List Loc) (ls : Array Slot), z_wd D (z_K ad ca q) A s H locs → lv_has ls 4 [] → W p l e (z_rm 4 122) s m args below meth c H locs 0 0 (z_qi below D (z_Kt ca) (z_K ad ca o.2) A s args o.1) (F0 m 166 ls []) := by
  obtain ⟨hx, hb, hr, hlk, hml, hown, hts, hK, hA⟩ := id C0
  intro H locs ls hw hl
  refine lv_iconst (v := (-1 : Int32)) hx hb d_On_executeByReg_166 (by decide) ?_
  have ho := Option.some.inj h
  subst ho
  exact z_rti C0 hw d_On_executeByReg_167
set_option maxHeartbeats 4000000 in
set_option maxRecDepth 100000 in
theorem w_On_executeByReg_159 {p : Program} {l : Launch} {e : Env} {s : State} {m : MethodId} {args : Array Value} {below : List Frame} {meth : Method} {c : Code} {D : va_G} {A : Nat → Prop} {ad : Nat → Nat} {ca : Nat → ClassId} (o : (Int32 × z_Sg)) (C0 : z_cx z_ROn b_On_executeByReg 4 (some .int) D (z_Kt ca) A p s m args meth c) (q : z_Sg) (x1 : Int32) (x2 : Int64) (h : k_On_executeByReg_159 x1 x2 q = some o) : ∀ (H : Heap) (locs : List Loc) (ls : Array Slot), z_wd D (z_K ad ca q) A s H locs → lv_has ls 4 [(0, .ref (ad 19)), (1, .int x1), (2, .long x2)] → W p l e (z_rm 4 122) s m args below meth c H locs 0 0 (z_qi below D (z_Kt ca) (z_K ad ca o.2) A s args o.1) (F0 m 159 ls []) := by
  obtain ⟨hx, hb, hr, hlk, hml, hown, hts, hK, hA⟩ := id C0
  intro H locs ls hw hl
  refine lv_aload_n hx hb d_On_executeByReg_159 rfl (lv_at hl 0 rfl) ?_
  refine lv_lload_n hx hb d_On_executeByReg_160 rfl (lv_at hl 2 rfl) ?_
  refine lv_iload_n hx hb d_On_executeByReg_161 rfl (lv_at hl 1 rfl) ?_
  obtain ⟨r6, er6, h⟩ := ok_b h
  refine z_vi (rest := []) C0 hw (c_On_divideBy x2 x1 q r6 er6) mw_On_divideBy ml_On_158 19 rfl ⟨Nat.le_of_ble_eq_true rfl, Nat.le_of_ble_eq_true rfl⟩ ⟨Nat.le_refl 0, Nat.le_refl 0⟩ rfl hl.1 rfl (Nat.le_of_ble_eq_true rfl) d_On_executeByReg_162 (fun H locs hw => ?_)
  have ho := Option.some.inj h
  subst ho
  exact z_rti C0 hw d_On_executeByReg_165
set_option maxHeartbeats 4000000 in
set_option maxRecDepth 100000 in
theorem w_On_executeByReg_148 {p : Program} {l : Launch} {e : Env} {s : State} {m : MethodId} {args : Array Value} {below : List Frame} {meth : Method} {c : Code} {D : va_G} {A : Nat → Prop} {ad : Nat → Nat} {ca : Nat → ClassId} (o : (Int32 × z_Sg)) (C0 : z_cx z_ROn b_On_executeByReg 4 (some .int) D (z_Kt ca) A p s m args meth c) (q : z_Sg) (x1 : Int32) (t1 : Int64) (t2 : Int64) (t3 : Int32) (t4 : Int32) (h : k_On_executeByReg_148 x1 t1 t2 t3 t4 q = some o) : ∀ (H : Heap) (locs : List Loc) (ls : Array Slot), z_wd D (z_K ad ca q) A s H locs → lv_has ls 4 [(0, .ref (ad 19)), (1, .int x1)] → W p l e (z_rm 4 122) s m args below meth c H locs 0 0 (z_qi below D (z_Kt ca) (z_K ad ca o.2) A s args o.1) (F0 m 148 ls [.int t4, .int t3, .long t2, .long t1, .ref (ad 10)]) := by
  obtain ⟨hx, hb, hr, hlk, hml, hown, hts, hK, hA⟩ := id C0
  intro H locs ls hw hl
  obtain ⟨r15, er15, h⟩ := ok_b h
  refine z_vv (rest := []) C0 hw (c_Wi_multiply t1 t2 t3 t4 q r15 er15) mw_Wi_multiply ml_On_103 10 rfl ⟨Nat.le_of_ble_eq_true rfl, Nat.le_of_ble_eq_true rfl⟩ ⟨Nat.le_refl 0, Nat.le_refl 0⟩ rfl hl.1 rfl (Nat.le_of_ble_eq_true rfl) d_On_executeByReg_148 (fun H locs hw => ?_)
  refine lv_aload_n hx hb d_On_executeByReg_151 rfl (lv_at hl 0 rfl) ?_
  refine lv_iload_n hx hb d_On_executeByReg_152 rfl (lv_at hl 1 rfl) ?_
  obtain ⟨r16, er16, h⟩ := ok_b h
  refine z_vv (rest := []) C0 hw (c_On_putHalves x1 r15 r16 er16) mw_On_putHalves ml_On_155 19 rfl ⟨Nat.le_of_ble_eq_true rfl, Nat.le_of_ble_eq_true rfl⟩ ⟨Nat.le_refl 0, Nat.le_refl 0⟩ rfl hl.1 rfl (Nat.le_of_ble_eq_true rfl) d_On_executeByReg_153 (fun H locs hw => ?_)
  refine lv_goto (tgt := 166) hx hb d_On_executeByReg_156 (by decide) ?_
  exact w_On_executeByReg_166 o C0 r16 h H locs ls hw (lv_sub hl [] rfl)
set_option maxHeartbeats 4000000 in
set_option maxRecDepth 100000 in
theorem w_On_executeByReg_117 {p : Program} {l : Launch} {e : Env} {s : State} {m : MethodId} {args : Array Value} {below : List Frame} {meth : Method} {c : Code} {D : va_G} {A : Nat → Prop} {ad : Nat → Nat} {ca : Nat → ClassId} (o : (Int32 × z_Sg)) (C0 : z_cx z_ROn b_On_executeByReg 4 (some .int) D (z_Kt ca) A p s m args meth c) (q : z_Sg) (x1 : Int32) (x2 : Int64) (h : k_On_executeByReg_117 x1 x2 q = some o) : ∀ (H : Heap) (locs : List Loc) (ls : Array Slot), z_wd D (z_K ad ca q) A s H locs → lv_has ls 4 [(0, .ref (ad 19)), (1, .int x1), (2, .long x2)] → W p l e (z_rm 4 122) s m args below meth c H locs 0 0 (z_qi below D (z_Kt ca) (z_K ad ca o.2) A s args o.1) (F0 m 117 ls []) := by
  obtain ⟨hx, hb, hr, hlk, hml, hown, hts, hK, hA⟩ := id C0
  intro H locs ls hw hl
  refine lv_aload_n hx hb d_On_executeByReg_117 rfl (lv_at hl 0 rfl) ?_
  refine gfK_19_wide C0 hw fl_On_27 d_On_executeByReg_118 ?_
  refine lv_aload_n hx hb d_On_executeByReg_121 rfl (lv_at hl 0 rfl) ?_
  refine gfK_19_operands C0 hw fl_On_19 d_On_executeByReg_122 ?_
  refine lv_iconst (v := (0 : Int32)) hx hb d_On_executeByReg_125 (by decide) ?_
  refine lv_iload_n hx hb d_On_executeByReg_126 rfl (lv_at hl 1 rfl) ?_
  obtain ⟨r13, er13, h⟩ := ok_b h
  refine z_vl (rest := [.ref (ad 10)]) C0 hw (c_Op_part (0 : Int32) x1 q r13 er13) mw_Op_part ml_On_78 6 rfl ⟨Nat.le_of_ble_eq_true rfl, Nat.le_of_ble_eq_true rfl⟩ ⟨Nat.le_refl 0, Nat.le_refl 0⟩ rfl hl.1 rfl (Nat.le_of_ble_eq_true rfl) d_On_executeByReg_127 (fun H locs hw => ?_)
  refine lv_lload_n hx hb d_On_executeByReg_130 rfl (lv_at hl 2 rfl) ?_
  refine lv_iload_n hx hb d_On_executeByReg_131 rfl (lv_at hl 1 rfl) ?_
  refine lv_aload_n hx hb d_On_executeByReg_132 rfl (lv_at hl 0 rfl) ?_
  refine gfK_19_code C0 hw fl_On_15 d_On_executeByReg_133 ?_
  refine gfK_5_reg C0 hw fl_On_64 d_On_executeByReg_136 ?_
  refine lv_iconst (v := (5 : Int32)) hx hb d_On_executeByReg_139 (by decide) ?_
  refine lv_icmp_ne (tgt := 147) hx hb d_On_executeByReg_140 (by decide) (fun c14 => ?_) (fun c14 => ?_)
  · have h := ok_f h c14
    refine lv_iconst (v := (0 : Int32)) hx hb d_On_executeByReg_147 (by decide) ?_
    exact w_On_executeByReg_148 o C0 q x1 r13 x2 x1 (0 : Int32) h H locs ls hw (lv_sub hl [0, 1] rfl)
  · have h := ok_t h c14
    refine lv_iconst (v := (1 : Int32)) hx hb d_On_executeByReg_143 (by decide) ?_
    refine lv_goto (tgt := 148) hx hb d_On_executeByReg_144 (by decide) ?_
    exact w_On_executeByReg_148 o C0 q x1 r13 x2 x1 (1 : Int32) h H locs ls hw (lv_sub hl [0, 1] rfl)
set_option maxHeartbeats 4000000 in
set_option maxRecDepth 100000 in
theorem c_On_executeByReg {l : Launch} {D : va_G} {ad : Nat → Nat} {ca : Nat → ClassId} (q : z_Sg) (o : (Int32 × z_Sg)) (h : f_On_executeByReg q = some o) : z_ci l y_On_executeByReg b_On_executeByReg 4 (some .int) 4 122 D (z_Kt ca) (z_K ad ca q) (z_K ad ca o.2) [.ref (ad 19)] o.1 := by
  refine z_ci_of (own := z_ROn) (by decide) rfl ?_
  intro p e s m below meth c A C0 hw
  obtain ⟨hx, hb, hr, hlk, hml, hown, hts, hK, hA⟩ := id C0
  generalize hH : s.heap = H at hw ⊢
  generalize hlo : ([] : List Loc) = locs at hw ⊢
  refine z_entry (lv := [(0, .ref (ad 19))]) (Nat.le_of_ble_eq_true rfl) rfl (fun ls hl => ?_)
  unfold f_On_executeByReg at h
  refine lv_aload_n hx hb d_On_executeByReg_0 rfl (lv_at hl 0 rfl) ?_
  refine gfK_19_operands C0 hw fl_On_19 d_On_executeByReg_1 ?_
  refine gfK_6_bytes C0 hw fl_On_139 d_On_executeByReg_4 ?_
  obtain ⟨n1, en1, h⟩ := ok_n h
  refine z_ti en1 ?_
  refine lv_istore_n (lv' := [(1, .int n1), (0, .ref (ad 19))]) hx hb d_On_executeByReg_7 rfl hl (by decide) rfl (fun ls hl => ?_)
  refine lv_aload_n hx hb d_On_executeByReg_8 rfl (lv_at hl 1 rfl) ?_
  refine gfK_19_operands C0 hw fl_On_19 d_On_executeByReg_9 ?_
  obtain ⟨r2, er2, h⟩ := ok_b h
  refine z_vl (rest := []) C0 hw (c_Op_value q r2 er2) mw_Op_value ml_On_82 6 rfl ⟨Nat.le_of_ble_eq_true rfl, Nat.le_of_ble_eq_true rfl⟩ ⟨Nat.le_refl 0, Nat.le_refl 0⟩ rfl hl.1 rfl (Nat.le_of_ble_eq_true rfl) d_On_executeByReg_12 (fun H locs hw => ?_)
  refine lv_lstore_n (lv' := [(2, .long r2), (1, .int n1), (0, .ref (ad 19))]) hx hb d_On_executeByReg_15 rfl hl (by decide) rfl (fun ls hl => ?_)
  refine lv_aload_n hx hb d_On_executeByReg_16 rfl (lv_at hl 2 rfl) ?_
  refine gfK_19_code C0 hw fl_On_15 d_On_executeByReg_17 ?_
  refine gfK_5_reg C0 hw fl_On_64 d_On_executeByReg_20 ?_
  by_cases c3 : (z_gI q 13) = (0 : Int32)
  · have h := ok_t h c3
    refine lv_tableIn (off := 37) (tgt := 60) hx hb d_On_executeByReg_23 (by rw [c3]; decide) (by rw [c3]; decide) (by rw [c3]; rfl) (by decide) ?_
    refine lv_aload_n hx hb d_On_executeByReg_60 rfl (lv_at hl 2 rfl) ?_
    refine gfK_19_arithmetic C0 hw fl_On_23 d_On_executeByReg_61 ?_
    refine lv_lload_n hx hb d_On_executeByReg_64 rfl (lv_at hl 0 rfl) ?_
    refine lv_aload_n hx hb d_On_executeByReg_65 rfl (lv_at hl 2 rfl) ?_
    refine gfK_19_code C0 hw fl_On_15 d_On_executeByReg_66 ?_
    refine gfK_5_number C0 hw fl_On_44 d_On_executeByReg_69 ?_
    refine lv_land hx hb d_On_executeByReg_72 ?_
    refine lv_iload_n hx hb d_On_executeByReg_73 rfl (lv_at hl 1 rfl) ?_
    obtain ⟨r4, er4, h⟩ := ok_b h
    refine z_vl (rest := []) C0 hw (c_Ar_logic (r2 &&& (z_gL q 9)) n1 q r4 er4) mw_Ar_logic ml_On_112 9 rfl ⟨Nat.le_of_ble_eq_true rfl, Nat.le_of_ble_eq_true rfl⟩ ⟨Nat.le_refl 0, Nat.le_refl 0⟩ rfl hl.1 rfl (Nat.le_of_ble_eq_true rfl) d_On_executeByReg_74 (fun H locs hw => ?_)
    refine lv_pop2_2 hx hb d_On_executeByReg_77 rfl ?_
    refine lv_goto (tgt := 166) hx hb d_On_executeByReg_78 (by decide) ?_
    exact w_On_executeByReg_166 o C0 r4.2 h H locs ls hw (lv_sub hl [] rfl)
  have h := ok_f h c3
  by_cases c5 : (z_gI q 13) = (1 : Int32)
  · have h := ok_t h c5
    refine lv_tableIn (off := 136) (tgt := 159) hx hb d_On_executeByReg_23 (by rw [c5]; decide) (by rw [c5]; decide) (by rw [c5]; rfl) (by decide) ?_
    exact w_On_executeByReg_159 o C0 q n1 r2 h H locs ls hw (lv_sub hl [2, 1, 0] rfl)
  have h := ok_f h c5
  by_cases c7 : (z_gI q 13) = (2 : Int32)
  · have h := ok_t h c7
    refine lv_tableIn (off := 58) (tgt := 81) hx hb d_On_executeByReg_23 (by rw [c7]; decide) (by rw [c7]; decide) (by rw [c7]; rfl) (by decide) ?_
    refine lv_aload_n hx hb d_On_executeByReg_81 rfl (lv_at hl 2 rfl) ?_
    refine gfK_19_operands C0 hw fl_On_19 d_On_executeByReg_82 ?_
    refine lv_lload_n hx hb d_On_executeByReg_85 rfl (lv_at hl 0 rfl) ?_
    refine lv_ldc2 (own := z_ROn) hx hb hown (hts _ kl_On_149) d_On_executeByReg_86 ?_
    refine lv_lxor hx hb d_On_executeByReg_89 ?_
    obtain ⟨r8, er8, h⟩ := ok_b h
    refine z_vv (rest := []) C0 hw (c_Op_put (r2 ^^^ (-1 : Int64)) q r8 er8) mw_Op_put ml_On_95 6 rfl ⟨Nat.le_of_ble_eq_true rfl, Nat.le_of_ble_eq_true rfl⟩ ⟨Nat.le_refl 0, Nat.le_refl 0⟩ rfl hl.1 rfl (Nat.le_of_ble_eq_true rfl) d_On_executeByReg_90 (fun H locs hw => ?_)
    refine lv_goto (tgt := 166) hx hb d_On_executeByReg_93 (by decide) ?_
    exact w_On_executeByReg_166 o C0 r8 h H locs ls hw (lv_sub hl [] rfl)
  have h := ok_f h c7
  by_cases c9 : (z_gI q 13) = (3 : Int32)
  · have h := ok_t h c9
    refine lv_tableIn (off := 73) (tgt := 96) hx hb d_On_executeByReg_23 (by rw [c9]; decide) (by rw [c9]; decide) (by rw [c9]; rfl) (by decide) ?_
    refine lv_aload_n hx hb d_On_executeByReg_96 rfl (lv_at hl 2 rfl) ?_
    refine gfK_19_operands C0 hw fl_On_19 d_On_executeByReg_97 ?_
    refine lv_aload_n hx hb d_On_executeByReg_100 rfl (lv_at hl 2 rfl) ?_
    refine gfK_19_arithmetic C0 hw fl_On_23 d_On_executeByReg_101 ?_
    refine lv_lconst (v := (0 : Int64)) hx hb d_On_executeByReg_104 (by decide) ?_
    refine lv_lload_n hx hb d_On_executeByReg_105 rfl (lv_at hl 0 rfl) ?_
    refine lv_lconst (v := (0 : Int64)) hx hb d_On_executeByReg_106 (by decide) ?_
    refine lv_iload_n hx hb d_On_executeByReg_107 rfl (lv_at hl 1 rfl) ?_
    obtain ⟨r10, er10, h⟩ := ok_b h
    refine z_vl (rest := [.ref (ad 6)]) C0 hw (c_Ar_difference (0 : Int64) r2 (0 : Int64) n1 q r10 er10) mw_Ar_difference ml_On_151 9 rfl ⟨Nat.le_of_ble_eq_true rfl, Nat.le_of_ble_eq_true rfl⟩ ⟨Nat.le_refl 0, Nat.le_refl 0⟩ rfl hl.1 rfl (Nat.le_of_ble_eq_true rfl) d_On_executeByReg_108 (fun H locs hw => ?_)
    obtain ⟨r11, er11, h⟩ := ok_b h
    refine z_vv (rest := []) C0 hw (c_Op_put r10.1 r10.2 r11 er11) mw_Op_put ml_On_95 6 rfl ⟨Nat.le_of_ble_eq_true rfl, Nat.le_of_ble_eq_true rfl⟩ ⟨Nat.le_refl 0, Nat.le_refl 0⟩ rfl hl.1 rfl (Nat.le_of_ble_eq_true rfl) d_On_executeByReg_111 (fun H locs hw => ?_)
    refine lv_goto (tgt := 166) hx hb d_On_executeByReg_114 (by decide) ?_
    exact w_On_executeByReg_166 o C0 r11 h H locs ls hw (lv_sub hl [] rfl)
  have h := ok_f h c9
  by_cases c12 : (z_gI q 13) = (4 : Int32)
  · have h := ok_t h c12
    refine lv_tableIn (off := 94) (tgt := 117) hx hb d_On_executeByReg_23 (by rw [c12]; decide) (by rw [c12]; decide) (by rw [c12]; rfl) (by decide) ?_
    exact w_On_executeByReg_117 o C0 q n1 r2 h H locs ls hw (lv_sub hl [2, 1, 0] rfl)
  have h := ok_f h c12
  by_cases c17 : (z_gI q 13) = (5 : Int32)
  · have h := ok_t h c17
    refine lv_tableIn (off := 94) (tgt := 117) hx hb d_On_executeByReg_23 (by rw [c17]; decide) (by rw [c17]; decide) (by rw [c17]; rfl) (by decide) ?_
    exact w_On_executeByReg_117 o C0 q n1 r2 h H locs ls hw (lv_sub hl [2, 1, 0] rfl)
  have h := ok_f h c17
  refine lv_tableOut (tgt := 159) hx hb d_On_executeByReg_23 (by have zc3 := lv_neT c3 (a := 0) rfl; have zc5 := lv_neT c5 (a := 1) rfl; have zc7 := lv_neT c7 (a := 2) rfl; have zc9 := lv_neT c9 (a := 3) rfl; have zc12 := lv_neT c12 (a := 4) rfl; have zc17 := lv_neT c17 (a := 5) rfl; omega) (by decide) ?_
  exact w_On_executeByReg_159 o C0 q n1 r2 h H locs ls hw (lv_sub hl [2, 1, 0] rfl)
def k_On_sizeByOpcode_23 (t0 : Int32) (q : z_Sg) : Option Int32 :=
  some t0
def f_On_sizeByOpcode (q : z_Sg) : Option Int32 :=
  if ((z_gI q 11) &&& (1 : Int32)) = 0 then (k_On_sizeByOpcode_23 (1 : Int32) q) else ((f_De_sizeV q).bind (fun r2 => k_On_sizeByOpcode_23 r2 q))
set_option maxHeartbeats 4000000 in
set_option maxRecDepth 100000 in
theorem w_On_sizeByOpcode_23 {p : Program} {l : Launch} {e : Env} {s : State} {m : MethodId} {args : Array Value} {below : List Frame} {meth : Method} {c : Code} {D : va_G} {A : Nat → Prop} {ad : Nat → Nat} {ca : Nat → ClassId} (o : Int32) (C0 : z_cx z_ROn b_On_sizeByOpcode 1 (some .int) D (z_Kt ca) A p s m args meth c) (q : z_Sg) (t0 : Int32) (h : k_On_sizeByOpcode_23 t0 q = some o) : ∀ (H : Heap) (locs : List Loc) (ls : Array Slot), z_wd D (z_K ad ca q) A s H locs → lv_has ls 1 [] → W p l e (z_rm 1 20) s m args below meth c H locs 0 0 (z_qi below D (z_Kt ca) (z_K ad ca q) A s args o) (F0 m 23 ls [.int t0]) := by
  obtain ⟨hx, hb, hr, hlk, hml, hown, hts, hK, hA⟩ := id C0
  intro H locs ls hw hl
  have ho := Option.some.inj h
  subst ho
  exact z_rti C0 hw d_On_sizeByOpcode_23
set_option maxHeartbeats 4000000 in
set_option maxRecDepth 100000 in
theorem c_On_sizeByOpcode {l : Launch} {D : va_G} {ad : Nat → Nat} {ca : Nat → ClassId} (q : z_Sg) (o : Int32) (h : f_On_sizeByOpcode q = some o) : z_ci l y_On_sizeByOpcode b_On_sizeByOpcode 1 (some .int) 1 20 D (z_Kt ca) (z_K ad ca q) (z_K ad ca q) [.ref (ad 19)] o := by
  refine z_ci_of (own := z_ROn) (by decide) rfl ?_
  intro p e s m below meth c A C0 hw
  obtain ⟨hx, hb, hr, hlk, hml, hown, hts, hK, hA⟩ := id C0
  generalize hH : s.heap = H at hw ⊢
  generalize hlo : ([] : List Loc) = locs at hw ⊢
  refine z_entry (lv := [(0, .ref (ad 19))]) (Nat.le_of_ble_eq_true rfl) rfl (fun ls hl => ?_)
  unfold f_On_sizeByOpcode at h
  refine lv_aload_n hx hb d_On_sizeByOpcode_0 rfl (lv_at hl 0 rfl) ?_
  refine gfK_19_code C0 hw fl_On_15 d_On_sizeByOpcode_1 ?_
  refine gfK_5_opcode C0 hw fl_On_31 d_On_sizeByOpcode_4 ?_
  refine lv_iconst (v := (1 : Int32)) hx hb d_On_sizeByOpcode_7 (by decide) ?_
  refine lv_iand hx hb d_On_sizeByOpcode_8 ?_
  refine lv_if_ne (tgt := 16) hx hb d_On_sizeByOpcode_9 (by decide) (fun c1 => ?_) (fun c1 => ?_)
  · have h := ok_f h c1
    refine lv_aload_n hx hb d_On_sizeByOpcode_16 rfl (lv_at hl 0 rfl) ?_
    refine gfK_19_code C0 hw fl_On_15 d_On_sizeByOpcode_17 ?_
    obtain ⟨r2, er2, h⟩ := ok_b h
    refine z_vi (rest := []) C0 hw (c_De_sizeV q r2 er2) mw_De_sizeV ml_On_54 5 rfl ⟨Nat.le_of_ble_eq_true rfl, Nat.le_of_ble_eq_true rfl⟩ ⟨Nat.le_refl 0, Nat.le_refl 0⟩ rfl hl.1 rfl (Nat.le_of_ble_eq_true rfl) d_On_sizeByOpcode_20 (fun H locs hw => ?_)
    exact w_On_sizeByOpcode_23 o C0 q r2 h H locs ls hw (lv_sub hl [] rfl)
  · have h := ok_t h c1
    refine lv_iconst (v := (1 : Int32)) hx hb d_On_sizeByOpcode_12 (by decide) ?_
    refine lv_goto (tgt := 23) hx hb d_On_sizeByOpcode_13 (by decide) ?_
    exact w_On_sizeByOpcode_23 o C0 q (1 : Int32) h H locs ls hw (lv_sub hl [] rfl)
def k_On_countOfShift_49 (t0 : Int32) (q : z_Sg) : Option Int32 :=
  some t0
def f_On_countOfShift (q : z_Sg) : Option Int32 :=
  if (208 : Int32) ≤ (z_gI q 11) then (if (210 : Int32) ≤ (z_gI q 11) then (if z_bad (1 : Int32) 16 then none else (k_On_countOfShift_49 ((z_gM q 0 (1 : Int32).toNatClampNeg).toInt32) q)) else (k_On_countOfShift_49 (1 : Int32) q)) else (some ((z_gL q 9).toInt32))
set_option maxHeartbeats 4000000 in
set_option maxRecDepth 100000 in
theorem w_On_countOfShift_49 {p : Program} {l : Launch} {e : Env} {s : State} {m : MethodId} {args : Array Value} {below : List Frame} {meth : Method} {c : Code} {D : va_G} {A : Nat → Prop} {ad : Nat → Nat} {ca : Nat → ClassId} (o : Int32) (C0 : z_cx z_ROn b_On_countOfShift 1 (some .int) D (z_Kt ca) A p s m args meth c) (q : z_Sg) (t0 : Int32) (h : k_On_countOfShift_49 t0 q = some o) : ∀ (H : Heap) (locs : List Loc) (ls : Array Slot), z_wd D (z_K ad ca q) A s H locs → lv_has ls 1 [] → W p l e (z_rm 0 0) s m args below meth c H locs 0 0 (z_qi below D (z_Kt ca) (z_K ad ca q) A s args o) (F0 m 49 ls [.int t0]) := by
  obtain ⟨hx, hb, hr, hlk, hml, hown, hts, hK, hA⟩ := id C0
  intro H locs ls hw hl
  have ho := Option.some.inj h
  subst ho
  exact z_rti C0 hw d_On_countOfShift_49
set_option maxHeartbeats 4000000 in
set_option maxRecDepth 100000 in
theorem c_On_countOfShift {l : Launch} {D : va_G} {ad : Nat → Nat} {ca : Nat → ClassId} (q : z_Sg) (o : Int32) (h : f_On_countOfShift q = some o) : z_ci l y_On_countOfShift b_On_countOfShift 1 (some .int) 0 0 D (z_Kt ca) (z_K ad ca q) (z_K ad ca q) [.ref (ad 19)] o := by
  refine z_ci_of (own := z_ROn) (by decide) rfl ?_
  intro p e s m below meth c A C0 hw
  obtain ⟨hx, hb, hr, hlk, hml, hown, hts, hK, hA⟩ := id C0
  generalize hH : s.heap = H at hw ⊢
  generalize hlo : ([] : List Loc) = locs at hw ⊢
  refine z_entry (lv := [(0, .ref (ad 19))]) (Nat.le_of_ble_eq_true rfl) rfl (fun ls hl => ?_)
  unfold f_On_countOfShift at h
  refine lv_aload_n hx hb d_On_countOfShift_0 rfl (lv_at hl 0 rfl) ?_
  refine gfK_19_code C0 hw fl_On_15 d_On_countOfShift_1 ?_
  refine gfK_5_opcode C0 hw fl_On_31 d_On_countOfShift_4 ?_
  refine lv_sipush (v := (208 : Int32)) hx hb d_On_countOfShift_7 (by decide) ?_
  refine lv_icmp_ge (tgt := 22) hx hb d_On_countOfShift_10 (by decide) (fun c1 => ?_) (fun c1 => ?_)
  · have h := ok_t h c1
    refine lv_aload_n hx hb d_On_countOfShift_22 rfl (lv_at hl 0 rfl) ?_
    refine gfK_19_code C0 hw fl_On_15 d_On_countOfShift_23 ?_
    refine gfK_5_opcode C0 hw fl_On_31 d_On_countOfShift_26 ?_
    refine lv_sipush (v := (210 : Int32)) hx hb d_On_countOfShift_29 (by decide) ?_
    refine lv_icmp_ge (tgt := 39) hx hb d_On_countOfShift_32 (by decide) (fun c2 => ?_) (fun c2 => ?_)
    · have h := ok_t h c2
      refine lv_aload_n hx hb d_On_countOfShift_39 rfl (lv_at hl 0 rfl) ?_
      refine gfK_19_state C0 hw fl_On_9 d_On_countOfShift_40 ?_
      refine gfK_1_registers C0 hw fl_On_135 d_On_countOfShift_43 ?_
      refine lv_iconst (v := (1 : Int32)) hx hb d_On_countOfShift_46 (by decide) ?_
      obtain ⟨b3, h⟩ := ok_g h
      refine alK_2 C0 hw b3 d_On_countOfShift_47 ?_
      refine lv_l2i hx hb d_On_countOfShift_48 rfl ?_
      exact w_On_countOfShift_49 o C0 q ((z_gM q 0 (1 : Int32).toNatClampNeg).toInt32) h H locs ls hw (lv_sub hl [] rfl)
    · have h := ok_f h c2
      refine lv_iconst (v := (1 : Int32)) hx hb d_On_countOfShift_35 (by decide) ?_
      refine lv_goto (tgt := 49) hx hb d_On_countOfShift_36 (by decide) ?_
      exact w_On_countOfShift_49 o C0 q (1 : Int32) h H locs ls hw (lv_sub hl [] rfl)
  · have h := ok_f h c1
    refine lv_aload_n hx hb d_On_countOfShift_13 rfl (lv_at hl 0 rfl) ?_
    refine gfK_19_code C0 hw fl_On_15 d_On_countOfShift_14 ?_
    refine gfK_5_number C0 hw fl_On_44 d_On_countOfShift_17 ?_
    refine lv_l2i hx hb d_On_countOfShift_20 rfl ?_
    have ho := Option.some.inj h
    subst ho
    exact z_rti C0 hw d_On_countOfShift_21
