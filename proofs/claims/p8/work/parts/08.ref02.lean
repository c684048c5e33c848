def k_Mo_takePlace_36 (q : z_Sg) : Option z_Sg :=
  some q
def k_Mo_takePlace_214 (q : z_Sg) : Option z_Sg :=
  some q
def k_Mo_takePlace_201 (x1 : Int32) (q : z_Sg) : Option z_Sg :=
  if x1 ≤ 0 then (k_Mo_takePlace_214 q) else ((f_Mo_fetchNumber x1 q).bind (fun r19 => z_nm (z_sL r19.2 6 r19.1) (fun q20 => k_Mo_takePlace_214 q20)))
def k_Mo_takePlace_187 (x1 : Int32) (x2 : Int32) (q : z_Sg) : Option z_Sg :=
  (f_Mo_plus (1 : Int32) q).bind (fun r16 => z_nm (z_sI q 13 ((x2 - x2 / (8 : Int32) * (8 : Int32)) + r16)) (fun q17 => k_Mo_takePlace_201 x1 q17))
def k_Mo_takePlace_167 (x1 : Int32) (x2 : Int32) (q : z_Sg) : Option z_Sg :=
  if (x2 - x2 / (8 : Int32) * (8 : Int32)) = (5 : Int32) then (if (z_gI q 7) = 0 then (k_Mo_takePlace_201 (4 : Int32) q) else (k_Mo_takePlace_187 x1 x2 q)) else (k_Mo_takePlace_187 x1 x2 q)
def k_Mo_takePlace_92 (x1 : Int32) (t1 : Int32) (q : z_Sg) : Option z_Sg :=
  z_gd (z_bo t1) (z_nm (z_sI q 17 t1) (fun q25 => if (z_gI q25 17) = 0 then ((f_Mo_plus (1 : Int32) q25).bind (fun r27 => z_nm (z_sI q25 13 ((z_gI q25 9) + r27)) (fun q28 => k_Mo_takePlace_201 x1 q28))) else (k_Mo_takePlace_201 (4 : Int32) q25)))
def k_Mo_takePlace_91 (x1 : Int32) (q : z_Sg) : Option z_Sg :=
  k_Mo_takePlace_92 x1 (0 : Int32) q
def k_Mo_takePlace_62 (t0 : Int32) (q : z_Sg) : Option z_Sg :=
  if (z_gI q 9) = (4 : Int32) then ((f_Mo_fetch q).bind (fun r10 => z_nm (z_sI r10.2 12 (r10.1 / (64 : Int32))) (fun q11 => (f_Mo_plus (2 : Int32) q11).bind (fun r12 => z_nm (z_sI q11 14 (((r10.1 / (8 : Int32)) - (r10.1 / (8 : Int32)) / (8 : Int32) * (8 : Int32)) + r12)) (fun q13 => if (z_gI q13 14) = (4 : Int32) then (z_nm (z_sI q13 14 (-1 : Int32)) (fun q22 => k_Mo_takePlace_167 t0 r10.1 q22)) else (k_Mo_takePlace_167 t0 r10.1 q13)))))) else (if (z_gI q 9) = (5 : Int32) then (if (z_gI q 7) = 0 then (k_Mo_takePlace_92 t0 (1 : Int32) q) else (k_Mo_takePlace_91 t0 q)) else (k_Mo_takePlace_91 t0 q))
def f_Mo_takePlace (q : z_Sg) : Option z_Sg :=
  z_nm (z_sI q 13 (-1 : Int32)) (fun q1 => z_nm (z_sI q1 14 (-1 : Int32)) (fun q2 => z_nm (z_sI q2 17 (0 : Int32)) (fun q3 => z_nm (z_sL q3 6 (0 : Int64)) (fun q4 => if (z_gI q4 7) = (3 : Int32) then (k_Mo_takePlace_36 q4) else (if (z_gI q4 4) = (-1 : Int32) then (if (z_gI q4 7) = (1 : Int32) then (k_Mo_takePlace_62 (1 : Int32) q4) else (if (z_gI q4 7) = (2 : Int32) then (k_Mo_takePlace_62 (4 : Int32) q4) else (k_Mo_takePlace_62 (0 : Int32) q4))) else (k_Mo_takePlace_36 q4))))))
set_option maxHeartbeats 4000000 in
set_option maxRecDepth 100000 in
theorem w_Mo_takePlace_36 {p : Program} {l : Launch} {e : Env} {s : State} {m : MethodId} {args : Array Value} {below : List Frame} {meth : Method} {c : Code} {D : va_G} {A : Nat → Prop} {ad : Nat → Nat} {ca : Nat → ClassId} (o : z_Sg) (C0 : z_cx z_RMo b_Mo_takePlace 3 none D (z_Mt ca) A p s m args meth c) (q : z_Sg) (h : k_Mo_takePlace_36 q = some o) : ∀ (H : Heap) (locs : List Loc) (ls : Array Slot), z_wd D (z_M ad ca q) A s H locs → lv_has ls 3 [] → W p l e (z_rm 6 151) s m args below meth c H locs 0 0 (z_qv below D (z_Mt ca) (z_M ad ca o) A s args) (F0 m 36 ls []) := by
  obtain ⟨hx, hb, hr, hlk, hml, hown, hts, hK, hA⟩ := id C0
  intro H locs ls hw hl
  have ho := Option.some.inj h
  subst ho
  exact z_rtv C0 hw d_Mo_takePlace_36
set_option maxHeartbeats 4000000 in
set_option maxRecDepth 100000 in
theorem w_Mo_takePlace_214 {p : Program} {l : Launch} {e : Env} {s : State} {m : MethodId} {args : Array Value} {below : List Frame} {meth : Method} {c : Code} {D : va_G} {A : Nat → Prop} {ad : Nat → Nat} {ca : Nat → ClassId} (o : z_Sg) (C0 : z_cx z_RMo b_Mo_takePlace 3 none D (z_Mt ca) A p s m args meth c) (q : z_Sg) (h : k_Mo_takePlace_214 q = some o) : ∀ (H : Heap) (locs : List Loc) (ls : Array Slot), z_wd D (z_M ad ca q) A s H locs → lv_has ls 3 [] → W p l e (z_rm 6 151) s m args below meth c H locs 0 0 (z_qv below D (z_Mt ca) (z_M ad ca o) A s args) (F0 m 214 ls []) := by
  obtain ⟨hx, hb, hr, hlk, hml, hown, hts, hK, hA⟩ := id C0
  intro H locs ls hw hl
  have ho := Option.some.inj h
  subst ho
  exact z_rtv C0 hw d_Mo_takePlace_214
set_option maxHeartbeats 4000000 in
set_option maxRecDepth 100000 in
theorem w_Mo_takePlace_201 {p : Program} {l : Launch} {e : Env} {s : State} {m : MethodId} {args : Array Value} {below : List Frame} {meth : Method} {c : Code} {D : va_G} {A : Nat → Prop} {ad : Nat → Nat} {ca : Nat → ClassId} (o : z_Sg) (C0 : z_cx z_RMo b_Mo_takePlace 3 none D (z_Mt ca) A p s m args meth c) (q : z_Sg) (x1 : Int32) (h : k_Mo_takePlace_201 x1 q = some o) : ∀ (H : Heap) (locs : List Loc) (ls : Array Slot), z_wd D (z_M ad ca q) A s H locs → lv_has ls 3 [(0, .ref (ad 0)), (1, .int x1)] → W p l e (z_rm 6 151) s m args below meth c H locs 0 0 (z_qv below D (z_Mt ca) (z_M ad ca o) A s args) (F0 m 201 ls []) := by
  obtain ⟨hx, hb, hr, hlk, hml, hown, hts, hK, hA⟩ := id C0
  intro H locs ls hw hl
  refine lv_iload_n hx hb d_Mo_takePlace_201 rfl (lv_at hl 1 rfl) ?_
  refine lv_if_le (tgt := 214) hx hb d_Mo_takePlace_202 (by decide) (fun c18 => ?_) (fun c18 => ?_)
  · have h := ok_t h c18
    exact w_Mo_takePlace_214 o C0 q h H locs ls hw (lv_sub hl [] rfl)
  · have h := ok_f h c18
    refine lv_aload_n hx hb d_Mo_takePlace_205 rfl (lv_at hl 0 rfl) ?_
    refine lv_aload_n hx hb d_Mo_takePlace_206 rfl (lv_at hl 0 rfl) ?_
    refine lv_iload_n hx hb d_Mo_takePlace_207 rfl (lv_at hl 1 rfl) ?_
    obtain ⟨r19, er19, h⟩ := ok_b h
    refine z_vl (rest := [.ref (ad 0)]) C0 hw (c_Mo_fetchNumber x1 q r19 er19) mw_Mo_fetchNumber ml_Mo_164 0 rfl ⟨Nat.le_of_ble_eq_true rfl, Nat.le_of_ble_eq_true rfl⟩ ⟨Nat.le_refl 0, Nat.le_refl 0⟩ rfl hl.1 rfl (Nat.le_of_ble_eq_true rfl) d_Mo_takePlace_208 (fun H locs hw => ?_)
    refine pfM_0_displacement C0 hw fl_Mo_154 d_Mo_takePlace_211 (fun H locs hw => ?_)
    obtain ⟨q20, eq20, h⟩ := ok_n h
    rw [← eq20] at hw
    exact w_Mo_takePlace_214 o C0 q20 h H locs ls hw (lv_sub hl [] rfl)
set_option maxHeartbeats 4000000 in
set_option maxRecDepth 100000 in
theorem w_Mo_takePlace_187 {p : Program} {l : Launch} {e : Env} {s : State} {m : MethodId} {args : Array Value} {below : List Frame} {meth : Method} {c : Code} {D : va_G} {A : Nat → Prop} {ad : Nat → Nat} {ca : Nat → ClassId} (o : z_Sg) (C0 : z_cx z_RMo b_Mo_takePlace 3 none D (z_Mt ca) A p s m args meth c) (q : z_Sg) (x1 : Int32) (x2 : Int32) (h : k_Mo_takePlace_187 x1 x2 q = some o) : ∀ (H : Heap) (locs : List Loc) (ls : Array Slot), z_wd D (z_M ad ca q) A s H locs → lv_has ls 3 [(0, .ref (ad 0)), (1, .int x1), (2, .int x2)] → W p l e (z_rm 6 151) s m args below meth c H locs 0 0 (z_qv below D (z_Mt ca) (z_M ad ca o) A s args) (F0 m 187 ls []) := by
  obtain ⟨hx, hb, hr, hlk, hml, hown, hts, hK, hA⟩ := id C0
  intro H locs ls hw hl
  refine lv_aload_n hx hb d_Mo_takePlace_187 rfl (lv_at hl 0 rfl) ?_
  refine lv_iload_n hx hb d_Mo_takePlace_188 rfl (lv_at hl 2 rfl) ?_
  refine lv_bipush (v := (8 : Int32)) hx hb d_Mo_takePlace_189 (by decide) ?_
  refine lv_irem hx hb d_Mo_takePlace_191 (by decide) ?_
  refine lv_aload_n hx hb d_Mo_takePlace_192 rfl (lv_at hl 0 rfl) ?_
  refine lv_iconst (v := (1 : Int32)) hx hb d_Mo_takePlace_193 (by decide) ?_
  obtain ⟨r16, er16, h⟩ := ok_b h
  refine z_vi (rest := [.int (x2 - x2 / (8 : Int32) * (8 : Int32)), .ref (ad 0)]) C0 hw (c_Mo_plus (1 : Int32) q r16 er16) mw_Mo_plus ml_Mo_157 0 rfl ⟨Nat.le_of_ble_eq_true rfl, Nat.le_of_ble_eq_true rfl⟩ ⟨Nat.le_refl 0, Nat.le_refl 0⟩ rfl hl.1 rfl (Nat.le_of_ble_eq_true rfl) d_Mo_takePlace_194 (fun H locs hw => ?_)
  refine lv_iadd hx hb d_Mo_takePlace_197 ?_
  refine pfM_0_base C0 hw fl_Mo_145 d_Mo_takePlace_198 (fun H locs hw => ?_)
  obtain ⟨q17, eq17, h⟩ := ok_n h
  rw [← eq17] at hw
  exact w_Mo_takePlace_201 o C0 q17 x1 h H locs ls hw (lv_sub hl [0, 1] rfl)
set_option maxHeartbeats 4000000 in
set_option maxRecDepth 100000 in
theorem w_Mo_takePlace_167 {p : Program} {l : Launch} {e : Env} {s : State} {m : MethodId} {args : Array Value} {below : List Frame} {meth : Method} {c : Code} {D : va_G} {A : Nat → Prop} {ad : Nat → Nat} {ca : Nat → ClassId} (o : z_Sg) (C0 : z_cx z_RMo b_Mo_takePlace 3 none D (z_Mt ca) A p s m args meth c) (q : z_Sg) (x1 : Int32) (x2 : Int32) (h : k_Mo_takePlace_167 x1 x2 q = some o) : ∀ (H : Heap) (locs : List Loc) (ls : Array Slot), z_wd D (z_M ad ca q) A s H locs → lv_has ls 3 [(0, .ref (ad 0)), (1, .int x1), (2, .int x2)] → W p l e (z_rm 6 151) s m args below meth c H locs 0 0 (z_qv below D (z_Mt ca) (z_M ad ca o) A s args) (F0 m 167 ls []) := by
  obtain ⟨hx, hb, hr, hlk, hml, hown, hts, hK, hA⟩ := id C0
  intro H locs ls hw hl
  refine lv_iload_n hx hb d_Mo_takePlace_167 rfl (lv_at hl 2 rfl) ?_
  refine lv_bipush (v := (8 : Int32)) hx hb d_Mo_takePlace_168 (by decide) ?_
  refine lv_irem hx hb d_Mo_takePlace_170 (by decide) ?_
  refine lv_iconst (v := (5 : Int32)) hx hb d_Mo_takePlace_171 (by decide) ?_
  refine lv_icmp_ne (tgt := 187) hx hb d_Mo_takePlace_172 (by decide) (fun c15 => ?_) (fun c15 => ?_)
  · have h := ok_f h c15
    exact w_Mo_takePlace_187 o C0 q x1 x2 h H locs ls hw (lv_sub hl [0, 1, 2] rfl)
  · have h := ok_t h c15
    refine lv_aload_n hx hb d_Mo_takePlace_175 rfl (lv_at hl 0 rfl) ?_
    refine gfM_0_mod C0 hw fl_Mo_136 d_Mo_takePlace_176 ?_
    refine lv_if_ne (tgt := 187) hx hb d_Mo_takePlace_179 (by decide) (fun c21 => ?_) (fun c21 => ?_)
    · have h := ok_f h c21
      exact w_Mo_takePlace_187 o C0 q x1 x2 h H locs ls hw (lv_sub hl [0, 1, 2] rfl)
    · have h := ok_t h c21
      refine lv_iconst (v := (4 : Int32)) hx hb d_Mo_takePlace_182 (by decide) ?_
      refine lv_istore_n (lv' := [(1, .int (4 : Int32)), (0, .ref (ad 0)), (2, .int x2)]) hx hb d_Mo_takePlace_183 rfl hl (by decide) rfl (fun ls hl => ?_)
      refine lv_goto (tgt := 201) hx hb d_Mo_takePlace_184 (by decide) ?_
      exact w_Mo_takePlace_201 o C0 q (4 : Int32) h H locs ls hw (lv_sub hl [1, 0] rfl)
set_option maxHeartbeats 4000000 in
set_option maxRecDepth 100000 in
theorem w_Mo_takePlace_92 {p : Program} {l : Launch} {e : Env} {s : State} {m : MethodId} {args : Array Value} {below : List Frame} {meth : Method} {c : Code} {D : va_G} {A : Nat → Prop} {ad : Nat → Nat} {ca : Nat → ClassId} (o : z_Sg) (C0 : z_cx z_RMo b_Mo_takePlace 3 none D (z_Mt ca) A p s m args meth c) (q : z_Sg) (x1 : Int32) (t1 : Int32) (h : k_Mo_takePlace_92 x1 t1 q = some o) : ∀ (H : Heap) (locs : List Loc) (ls : Array Slot), z_wd D (z_M ad ca q) A s H locs → lv_has ls 3 [(0, .ref (ad 0)), (1, .int x1)] → W p l e (z_rm 6 151) s m args below meth c H locs 0 0 (z_qv below D (z_Mt ca) (z_M ad ca o) A s args) (F0 m 92 ls [.int t1, .ref (ad 0)]) := by
  obtain ⟨hx, hb, hr, hlk, hml, hown, hts, hK, hA⟩ := id C0
  intro H locs ls hw hl
  obtain ⟨b24, h⟩ := ok_G h
  refine pfM_0_relative C0 hw b24 fl_Mo_151 d_Mo_takePlace_92 (fun H locs hw => ?_)
  obtain ⟨q25, eq25, h⟩ := ok_n h
  rw [← eq25] at hw
  refine lv_aload_n hx hb d_Mo_takePlace_95 rfl (lv_at hl 0 rfl) ?_
  refine gfM_0_relative C0 hw fl_Mo_151 d_Mo_takePlace_96 ?_
  refine lv_if_eq (tgt := 107) hx hb d_Mo_takePlace_99 (by decide) (fun c26 => ?_) (fun c26 => ?_)
  · have h := ok_t h c26
    refine lv_aload_n hx hb d_Mo_takePlace_107 rfl (lv_at hl 0 rfl) ?_
    refine lv_aload_n hx hb d_Mo_takePlace_108 rfl (lv_at hl 0 rfl) ?_
    refine gfM_0_rm C0 hw fl_Mo_142 d_Mo_takePlace_109 ?_
    refine lv_aload_n hx hb d_Mo_takePlace_112 rfl (lv_at hl 0 rfl) ?_
    refine lv_iconst (v := (1 : Int32)) hx hb d_Mo_takePlace_113 (by decide) ?_
    obtain ⟨r27, er27, h⟩ := ok_b h
    refine z_vi (rest := [.int (z_gI q25 9), .ref (ad 0)]) C0 hw (c_Mo_plus (1 : Int32) q25 r27 er27) mw_Mo_plus ml_Mo_157 0 rfl ⟨Nat.le_of_ble_eq_true rfl, Nat.le_of_ble_eq_true rfl⟩ ⟨Nat.le_refl 0, Nat.le_refl 0⟩ rfl hl.1 rfl (Nat.le_of_ble_eq_true rfl) d_Mo_takePlace_114 (fun H locs hw => ?_)
    refine lv_iadd hx hb d_Mo_takePlace_117 ?_
    refine pfM_0_base C0 hw fl_Mo_145 d_Mo_takePlace_118 (fun H locs hw => ?_)
    obtain ⟨q28, eq28, h⟩ := ok_n h
    rw [← eq28] at hw
    refine lv_goto (tgt := 201) hx hb d_Mo_takePlace_121 (by decide) ?_
    exact w_Mo_takePlace_201 o C0 q28 x1 h H locs ls hw (lv_sub hl [0, 1] rfl)
  · have h := ok_f h c26
    refine lv_iconst (v := (4 : Int32)) hx hb d_Mo_takePlace_102 (by decide) ?_
    refine lv_istore_n (lv' := [(1, .int (4 : Int32)), (0, .ref (ad 0))]) hx hb d_Mo_takePlace_103 rfl hl (by decide) rfl (fun ls hl => ?_)
    refine lv_goto (tgt := 201) hx hb d_Mo_takePlace_104 (by decide) ?_
    exact w_Mo_takePlace_201 o C0 q25 (4 : Int32) h H locs ls hw (lv_sub hl [1, 0] rfl)
set_option maxHeartbeats 4000000 in
set_option maxRecDepth 100000 in
theorem w_Mo_takePlace_91 {p : Program} {l : Launch} {e : Env} {s : State} {m : MethodId} {args : Array Value} {below : List Frame} {meth : Method} {c : Code} {D : va_G} {A : Nat → Prop} {ad : Nat → Nat} {ca : Nat → ClassId} (o : z_Sg) (C0 : z_cx z_RMo b_Mo_takePlace 3 none D (z_Mt ca) A p s m args meth c) (q : z_Sg) (x1 : Int32) (h : k_Mo_takePlace_91 x1 q = some o) : ∀ (H : Heap) (locs : List Loc) (ls : Array Slot), z_wd D (z_M ad ca q) A s H locs → lv_has ls 3 [(0, .ref (ad 0)), (1, .int x1)] → W p l e (z_rm 6 151) s m args below meth c H locs 0 0 (z_qv below D (z_Mt ca) (z_M ad ca o) A s args) (F0 m 91 ls [.ref (ad 0)]) := by
  obtain ⟨hx, hb, hr, hlk, hml, hown, hts, hK, hA⟩ := id C0
  intro H locs ls hw hl
  refine lv_iconst (v := (0 : Int32)) hx hb d_Mo_takePlace_91 (by decide) ?_
  exact w_Mo_takePlace_92 o C0 q x1 (0 : Int32) h H locs ls hw (lv_sub hl [0, 1] rfl)
set_option maxHeartbeats 4000000 in
set_option maxRecDepth 100000 in
theorem w_Mo_takePlace_62 {p : Program} {l : Launch} {e : Env} {s : State} {m : MethodId} {args : Array Value} {below : List Frame} {meth : Method} {c : Code} {D : va_G} {A : Nat → Prop} {ad : Nat → Nat} {ca : Nat → ClassId} (o : z_Sg) (C0 : z_cx z_RMo b_Mo_takePlace 3 none D (z_Mt ca) A p s m args meth c) (q : z_Sg) (t0 : Int32) (h : k_Mo_takePlace_62 t0 q = some o) : ∀ (H : Heap) (locs : List Loc) (ls : Array Slot), z_wd D (z_M ad ca q) A s H locs → lv_has ls 3 [(0, .ref (ad 0))] → W p l e (z_rm 6 151) s m args below meth c H locs 0 0 (z_qv below D (z_Mt ca) (z_M ad ca o) A s args) (F0 m 62 ls [.int t0]) := by
  obtain ⟨hx, hb, hr, hlk, hml, hown, hts, hK, hA⟩ := id C0
  intro H locs ls hw hl
  refine lv_istore_n (lv' := [(1, .int t0), (0, .ref (ad 0))]) hx hb d_Mo_takePlace_62 rfl hl (by decide) rfl (fun ls hl => ?_)
  refine lv_aload_n hx hb d_Mo_takePlace_63 rfl (lv_at hl 1 rfl) ?_
  refine gfM_0_rm C0 hw fl_Mo_142 d_Mo_takePlace_64 ?_
  refine lv_iconst (v := (4 : Int32)) hx hb d_Mo_takePlace_67 (by decide) ?_
  refine lv_icmp_eq (tgt := 124) hx hb d_Mo_takePlace_68 (by decide) (fun c9 => ?_) (fun c9 => ?_)
  · have h := ok_t h c9
    refine lv_aload_n hx hb d_Mo_takePlace_124 rfl (lv_at hl 1 rfl) ?_
    obtain ⟨r10, er10, h⟩ := ok_b h
    refine z_vi (rest := []) C0 hw (c_Mo_fetch q r10 er10) mw_Mo_fetch ml_Mo_114 0 rfl ⟨Nat.le_of_ble_eq_true rfl, Nat.le_of_ble_eq_true rfl⟩ ⟨Nat.le_refl 0, Nat.le_refl 0⟩ rfl hl.1 rfl (Nat.le_of_ble_eq_true rfl) d_Mo_takePlace_125 (fun H locs hw => ?_)
    refine lv_istore_n (lv' := [(2, .int r10.1), (1, .int t0), (0, .ref (ad 0))]) hx hb d_Mo_takePlace_128 rfl hl (by decide) rfl (fun ls hl => ?_)
    refine lv_aload_n hx hb d_Mo_takePlace_129 rfl (lv_at hl 2 rfl) ?_
    refine lv_iload_n hx hb d_Mo_takePlace_130 rfl (lv_at hl 0 rfl) ?_
    refine lv_bipush (v := (64 : Int32)) hx hb d_Mo_takePlace_131 (by decide) ?_
    refine lv_idiv hx hb d_Mo_takePlace_133 (by decide) ?_
    refine pfM_0_scale C0 hw fl_Mo_161 d_Mo_takePlace_134 (fun H locs hw => ?_)
    obtain ⟨q11, eq11, h⟩ := ok_n h
    rw [← eq11] at hw
    refine lv_aload_n hx hb d_Mo_takePlace_137 rfl (lv_at hl 2 rfl) ?_
    refine lv_iload_n hx hb d_Mo_takePlace_138 rfl (lv_at hl 0 rfl) ?_
    refine lv_bipush (v := (8 : Int32)) hx hb d_Mo_takePlace_139 (by decide) ?_
    refine lv_idiv hx hb d_Mo_takePlace_141 (by decide) ?_
    refine lv_bipush (v := (8 : Int32)) hx hb d_Mo_takePlace_142 (by decide) ?_
    refine lv_irem hx hb d_Mo_takePlace_144 (by decide) ?_
    refine lv_aload_n hx hb d_Mo_takePlace_145 rfl (lv_at hl 2 rfl) ?_
    refine lv_iconst (v := (2 : Int32)) hx hb d_Mo_takePlace_146 (by decide) ?_
    obtain ⟨r12, er12, h⟩ := ok_b h
    refine z_vi (rest := [.int ((r10.1 / (8 : Int32)) - (r10.1 / (8 : Int32)) / (8 : Int32) * (8 : Int32)), .ref (ad 0)]) C0 hw (c_Mo_plus (2 : Int32) q11 r12 er12) mw_Mo_plus ml_Mo_157 0 rfl ⟨Nat.le_of_ble_eq_true rfl, Nat.le_of_ble_eq_true rfl⟩ ⟨Nat.le_refl 0, Nat.le_refl 0⟩ rfl hl.1 rfl (Nat.le_of_ble_eq_true rfl) d_Mo_takePlace_147 (fun H locs hw => ?_)
    refine lv_iadd hx hb d_Mo_takePlace_150 ?_
    refine pfM_0_index C0 hw fl_Mo_148 d_Mo_takePlace_151 (fun H locs hw => ?_)
    obtain ⟨q13, eq13, h⟩ := ok_n h
    rw [← eq13] at hw
    refine lv_aload_n hx hb d_Mo_takePlace_154 rfl (lv_at hl 2 rfl) ?_
    refine gfM_0_index C0 hw fl_Mo_148 d_Mo_takePlace_155 ?_
    refine lv_iconst (v := (4 : Int32)) hx hb d_Mo_takePlace_158 (by decide) ?_
    refine lv_icmp_ne (tgt := 167) hx hb d_Mo_takePlace_159 (by decide) (fun c14 => ?_) (fun c14 => ?_)
    · have h := ok_f h c14
      exact w_Mo_takePlace_167 o C0 q13 t0 r10.1 h H locs ls hw (lv_sub hl [2, 1, 0] rfl)
    · have h := ok_t h c14
      refine lv_aload_n hx hb d_Mo_takePlace_162 rfl (lv_at hl 2 rfl) ?_
      refine lv_iconst (v := (-1 : Int32)) hx hb d_Mo_takePlace_163 (by decide) ?_
      refine pfM_0_index C0 hw fl_Mo_148 d_Mo_takePlace_164 (fun H locs hw => ?_)
      obtain ⟨q22, eq22, h⟩ := ok_n h
      rw [← eq22] at hw
      exact w_Mo_takePlace_167 o C0 q22 t0 r10.1 h H locs ls hw (lv_sub hl [2, 1, 0] rfl)
  · have h := ok_f h c9
    refine lv_aload_n hx hb d_Mo_takePlace_71 rfl (lv_at hl 1 rfl) ?_
    refine lv_aload_n hx hb d_Mo_takePlace_72 rfl (lv_at hl 1 rfl) ?_
    refine gfM_0_rm C0 hw fl_Mo_142 d_Mo_takePlace_73 ?_
    refine lv_iconst (v := (5 : Int32)) hx hb d_Mo_takePlace_76 (by decide) ?_
    refine lv_icmp_ne (tgt := 91) hx hb d_Mo_takePlace_77 (by decide) (fun c23 => ?_) (fun c23 => ?_)
    · have h := ok_f h c23
      exact w_Mo_takePlace_91 o C0 q t0 h H locs ls hw (lv_sub hl [1, 0] rfl)
    · have h := ok_t h c23
      refine lv_aload_n hx hb d_Mo_takePlace_80 rfl (lv_at hl 1 rfl) ?_
      refine gfM_0_mod C0 hw fl_Mo_136 d_Mo_takePlace_81 ?_
      refine lv_if_ne (tgt := 91) hx hb d_Mo_takePlace_84 (by decide) (fun c29 => ?_) (fun c29 => ?_)
      · have h := ok_f h c29
        exact w_Mo_takePlace_91 o C0 q t0 h H locs ls hw (lv_sub hl [1, 0] rfl)
      · have h := ok_t h c29
        refine lv_iconst (v := (1 : Int32)) hx hb d_Mo_takePlace_87 (by decide) ?_
        refine lv_goto (tgt := 92) hx hb d_Mo_takePlace_88 (by decide) ?_
        exact w_Mo_takePlace_92 o C0 q t0 (1 : Int32) h H locs ls hw (lv_sub hl [1, 0] rfl)
set_option maxHeartbeats 4000000 in
set_option maxRecDepth 100000 in
theorem c_Mo_takePlace {l : Launch} {D : va_G} {ad : Nat → Nat} {ca : Nat → ClassId} (q : z_Sg) (o : z_Sg) (h : f_Mo_takePlace q = some o) : z_cv l y_Mo_takePlace b_Mo_takePlace 3 none 6 151 D (z_Mt ca) (z_M ad ca q) (z_M ad ca o) [.ref (ad 0)] := by
  refine z_cv_of (own := z_RMo) (by decide) rfl ?_
  intro p e s m below meth c A C0 hw
  obtain ⟨hx, hb, hr, hlk, hml, hown, hts, hK, hA⟩ := id C0
  generalize hH : s.heap = H at hw ⊢
  generalize hlo : ([] : List Loc) = locs at hw ⊢
  refine z_entry (lv := [(0, .ref (ad 0))]) (Nat.le_of_ble_eq_true rfl) rfl (fun ls hl => ?_)
  unfold f_Mo_takePlace at h
  refine lv_aload_n hx hb d_Mo_takePlace_0 rfl (lv_at hl 0 rfl) ?_
  refine lv_iconst (v := (-1 : Int32)) hx hb d_Mo_takePlace_1 (by decide) ?_
  refine pfM_0_base C0 hw fl_Mo_145 d_Mo_takePlace_2 (fun H locs hw => ?_)
  obtain ⟨q1, eq1, h⟩ := ok_n h
  rw [← eq1] at hw
  refine lv_aload_n hx hb d_Mo_takePlace_5 rfl (lv_at hl 0 rfl) ?_
  refine lv_iconst (v := (-1 : Int32)) hx hb d_Mo_takePlace_6 (by decide) ?_
  refine pfM_0_index C0 hw fl_Mo_148 d_Mo_takePlace_7 (fun H locs hw => ?_)
  obtain ⟨q2, eq2, h⟩ := ok_n h
  rw [← eq2] at hw
  refine lv_aload_n hx hb d_Mo_takePlace_10 rfl (lv_at hl 0 rfl) ?_
  refine lv_iconst (v := (0 : Int32)) hx hb d_Mo_takePlace_11 (by decide) ?_
  refine pfM_0_relative C0 hw (Or.inl rfl) fl_Mo_151 d_Mo_takePlace_12 (fun H locs hw => ?_)
  obtain ⟨q3, eq3, h⟩ := ok_n h
  rw [← eq3] at hw
  refine lv_aload_n hx hb d_Mo_takePlace_15 rfl (lv_at hl 0 rfl) ?_
  refine lv_lconst (v := (0 : Int64)) hx hb d_Mo_takePlace_16 (by decide) ?_
  refine pfM_0_displacement C0 hw fl_Mo_154 d_Mo_takePlace_17 (fun H locs hw => ?_)
  obtain ⟨q4, eq4, h⟩ := ok_n h
  rw [← eq4] at hw
  refine lv_aload_n hx hb d_Mo_takePlace_20 rfl (lv_at hl 0 rfl) ?_
  refine gfM_0_mod C0 hw fl_Mo_136 d_Mo_takePlace_21 ?_
  refine lv_iconst (v := (3 : Int32)) hx hb d_Mo_takePlace_24 (by decide) ?_
  refine lv_icmp_eq (tgt := 36) hx hb d_Mo_takePlace_25 (by decide) (fun c5 => ?_) (fun c5 => ?_)
  · have h := ok_t h c5
    exact w_Mo_takePlace_36 o C0 q4 h H locs ls hw (lv_sub hl [] rfl)
  · have h := ok_f h c5
    refine lv_aload_n hx hb d_Mo_takePlace_28 rfl (lv_at hl 0 rfl) ?_
    refine gfM_0_refused C0 hw fl_Mo_28 d_Mo_takePlace_29 ?_
    refine lv_iconst (v := (-1 : Int32)) hx hb d_Mo_takePlace_32 (by decide) ?_
    refine lv_icmp_eq (tgt := 37) hx hb d_Mo_takePlace_33 (by decide) (fun c6 => ?_) (fun c6 => ?_)
    · have h := ok_t h c6
      refine lv_aload_n hx hb d_Mo_takePlace_37 rfl (lv_at hl 0 rfl) ?_
      refine gfM_0_mod C0 hw fl_Mo_136 d_Mo_takePlace_38 ?_
      refine lv_iconst (v := (1 : Int32)) hx hb d_Mo_takePlace_41 (by decide) ?_
      refine lv_icmp_ne (tgt := 49) hx hb d_Mo_takePlace_42 (by decide) (fun c7 => ?_) (fun c7 => ?_)
      · have h := ok_f h c7
        refine lv_aload_n hx hb d_Mo_takePlace_49 rfl (lv_at hl 0 rfl) ?_
        refine gfM_0_mod C0 hw fl_Mo_136 d_Mo_takePlace_50 ?_
        refine lv_iconst (v := (2 : Int32)) hx hb d_Mo_takePlace_53 (by decide) ?_
        refine lv_icmp_ne (tgt := 61) hx hb d_Mo_takePlace_54 (by decide) (fun c8 => ?_) (fun c8 => ?_)
        · have h := ok_f h c8
          refine lv_iconst (v := (0 : Int32)) hx hb d_Mo_takePlace_61 (by decide) ?_
          exact w_Mo_takePlace_62 o C0 q4 (0 : Int32) h H locs ls hw (lv_sub hl [0] rfl)
        · have h := ok_t h c8
          refine lv_iconst (v := (4 : Int32)) hx hb d_Mo_takePlace_57 (by decide) ?_
          refine lv_goto (tgt := 62) hx hb d_Mo_takePlace_58 (by decide) ?_
          exact w_Mo_takePlace_62 o C0 q4 (4 : Int32) h H locs ls hw (lv_sub hl [0] rfl)
      · have h := ok_t h c7
        refine lv_iconst (v := (1 : Int32)) hx hb d_Mo_takePlace_45 (by decide) ?_
        refine lv_goto (tgt := 62) hx hb d_Mo_takePlace_46 (by decide) ?_
        exact w_Mo_takePlace_62 o C0 q4 (1 : Int32) h H locs ls hw (lv_sub hl [0] rfl)
    · have h := ok_f h c6
      exact w_Mo_takePlace_36 o C0 q4 h H locs ls hw (lv_sub hl [] rfl)
def f_Mo_takeOperand (q : z_Sg) : Option z_Sg :=
  (f_Mo_takeMod q).bind (fun r1 => (f_Mo_takePlace r1).bind (fun r2 => z_nm (z_sL r2 7 ((z_gL r2 0) + ((z_gI r2 6).toInt64))) (fun q3 => some q3)))
set_option maxHeartbeats 4000000 in
set_option maxRecDepth 100000 in
theorem c_Mo_takeOperand {l : Launch} {D : va_G} {ad : Nat → Nat} {ca : Nat → ClassId} (q : z_Sg) (o : z_Sg) (h : f_Mo_takeOperand q = some o) : z_cv l y_Mo_takeOperand b_Mo_takeOperand 1 none 7 173 D (z_Mt ca) (z_M ad ca q) (z_M ad ca o) [.ref (ad 0)] := by
  refine z_cv_of (own := z_RMo) (by decide) rfl ?_
  intro p e s m below meth c A C0 hw
  obtain ⟨hx, hb, hr, hlk, hml, hown, hts, hK, hA⟩ := id C0
  generalize hH : s.heap = H at hw ⊢
  generalize hlo : ([] : List Loc) = locs at hw ⊢
  refine z_entry (lv := [(0, .ref (ad 0))]) (Nat.le_of_ble_eq_true rfl) rfl (fun ls hl => ?_)
  unfold f_Mo_takeOperand at h
  refine lv_aload_n hx hb d_Mo_takeOperand_0 rfl (lv_at hl 0 rfl) ?_
  obtain ⟨r1, er1, h⟩ := ok_b h
  refine z_vv (rest := []) C0 hw (c_Mo_takeMod q r1 er1) mw_Mo_takeMod ml_Mo_167 0 rfl ⟨Nat.le_of_ble_eq_true rfl, Nat.le_of_ble_eq_true rfl⟩ ⟨Nat.le_refl 0, Nat.le_refl 0⟩ rfl hl.1 rfl (Nat.le_of_ble_eq_true rfl) d_Mo_takeOperand_1 (fun H locs hw => ?_)
  refine lv_aload_n hx hb d_Mo_takeOperand_4 rfl (lv_at hl 0 rfl) ?_
  obtain ⟨r2, er2, h⟩ := ok_b h
  refine z_vv (rest := []) C0 hw (c_Mo_takePlace r1 r2 er2) mw_Mo_takePlace ml_Mo_170 0 rfl ⟨Nat.le_of_ble_eq_true rfl, Nat.le_of_ble_eq_true rfl⟩ ⟨Nat.le_refl 0, Nat.le_refl 0⟩ rfl hl.1 rfl (Nat.le_of_ble_eq_true rfl) d_Mo_takeOperand_5 (fun H locs hw => ?_)
  refine lv_aload_n hx hb d_Mo_takeOperand_8 rfl (lv_at hl 0 rfl) ?_
  refine lv_aload_n hx hb d_Mo_takeOperand_9 rfl (lv_at hl 0 rfl) ?_
  refine gfM_0_next C0 hw fl_Mo_111 d_Mo_takeOperand_10 ?_
  refine lv_aload_n hx hb d_Mo_takeOperand_13 rfl (lv_at hl 0 rfl) ?_
  refine gfM_0_length C0 hw fl_Mo_108 d_Mo_takeOperand_14 ?_
  refine lv_i2l hx hb d_Mo_takeOperand_17 rfl ?_
  refine lv_ladd hx hb d_Mo_takeOperand_18 ?_
  refine pfM_0_goes C0 hw fl_Mo_173 d_Mo_takeOperand_19 (fun H locs hw => ?_)
  obtain ⟨q3, eq3, h⟩ := ok_n h
  rw [← eq3] at hw
  have ho := Option.some.inj h
  subst ho
  exact z_rtv C0 hw d_Mo_takeOperand_22
def k_Mo_four_10 (t0 : Int32) (q : z_Sg) : Option Int32 :=
  some t0
def f_Mo_four (x0 : Int32) (q : z_Sg) : Option Int32 :=
  if (4 : Int32) ≤ x0 then (k_Mo_four_10 (4 : Int32) q) else (k_Mo_four_10 x0 q)
set_option maxHeartbeats 4000000 in
set_option maxRecDepth 100000 in
theorem w_Mo_four_10 {p : Program} {l : Launch} {e : Env} {s : State} {m : MethodId} {args : Array Value} {below : List Frame} {meth : Method} {c : Code} {D : va_G} {A : Nat → Prop} {ad : Nat → Nat} {ca : Nat → ClassId} (o : Int32) (C0 : z_cx z_RMo b_Mo_four 1 (some .int) D (z_Mt ca) A p s m args meth c) (q : z_Sg) (t0 : Int32) (h : k_Mo_four_10 t0 q = some o) : ∀ (H : Heap) (locs : List Loc) (ls : Array Slot), z_wd D (z_M ad ca q) A s H locs → lv_has ls 1 [] → W p l e (z_rm 0 0) s m args below meth c H locs 0 0 (z_qi below D (z_Mt ca) (z_M ad ca q) A s args o) (F0 m 10 ls [.int t0]) := by
  obtain ⟨hx, hb, hr, hlk, hml, hown, hts, hK, hA⟩ := id C0
  intro H locs ls hw hl
  have ho := Option.some.inj h
  subst ho
  exact z_rti C0 hw d_Mo_four_10
set_option maxHeartbeats 4000000 in
set_option maxRecDepth 100000 in
theorem c_Mo_four {l : Launch} {D : va_G} {ad : Nat → Nat} {ca : Nat → ClassId} (x0 : Int32) (q : z_Sg) (o : Int32) (h : f_Mo_four x0 q = some o) : z_ci l y_Mo_four b_Mo_four 1 (some .int) 0 0 D (z_Mt ca) (z_M ad ca q) (z_M ad ca q) [.int x0] o := by
  refine z_ci_of (own := z_RMo) (by decide) rfl ?_
  intro p e s m below meth c A C0 hw
  obtain ⟨hx, hb, hr, hlk, hml, hown, hts, hK, hA⟩ := id C0
  generalize hH : s.heap = H at hw ⊢
  generalize hlo : ([] : List Loc) = locs at hw ⊢
  refine z_entry (lv := [(0, .int x0)]) (Nat.le_of_ble_eq_true rfl) rfl (fun ls hl => ?_)
  unfold f_Mo_four at h
  refine lv_iload_n hx hb d_Mo_four_0 rfl (lv_at hl 0 rfl) ?_
  refine lv_iconst (v := (4 : Int32)) hx hb d_Mo_four_1 (by decide) ?_
  refine lv_icmp_ge (tgt := 9) hx hb d_Mo_four_2 (by decide) (fun c1 => ?_) (fun c1 => ?_)
  · have h := ok_t h c1
    refine lv_iconst (v := (4 : Int32)) hx hb d_Mo_four_9 (by decide) ?_
    exact w_Mo_four_10 o C0 q (4 : Int32) h H locs ls hw (lv_sub hl [] rfl)
  · have h := ok_f h c1
    refine lv_iload_n hx hb d_Mo_four_5 rfl (lv_at hl 0 rfl) ?_
    refine lv_goto (tgt := 10) hx hb d_Mo_four_6 (by decide) ?_
    exact w_Mo_four_10 o C0 q x0 h H locs ls hw (lv_sub hl [] rfl)
def f_Mo_number (x1 : Int32) (q : z_Sg) : Option (Int64 × z_Sg) :=
  (f_Mo_fetchNumber x1 q).bind (fun r1 => z_nm (z_sL r1.2 7 ((z_gL r1.2 0) + ((z_gI r1.2 6).toInt64))) (fun q2 => some (r1.1, q2)))
set_option maxHeartbeats 4000000 in
set_option maxRecDepth 100000 in
theorem c_Mo_number {l : Launch} {D : va_G} {ad : Nat → Nat} {ca : Nat → ClassId} (x1 : Int32) (q : z_Sg) (o : (Int64 × z_Sg)) (h : f_Mo_number x1 q = some o) : z_cl l y_Mo_number b_Mo_number 4 (some .long) 6 151 D (z_Mt ca) (z_M ad ca q) (z_M ad ca o.2) [.ref (ad 0), .int x1] o.1 := by
  refine z_cl_of (own := z_RMo) (by decide) rfl ?_
  intro p e s m below meth c A C0 hw
  obtain ⟨hx, hb, hr, hlk, hml, hown, hts, hK, hA⟩ := id C0
  generalize hH : s.heap = H at hw ⊢
  generalize hlo : ([] : List Loc) = locs at hw ⊢
  refine z_entry (lv := [(0, .ref (ad 0)), (1, .int x1)]) (Nat.le_of_ble_eq_true rfl) rfl (fun ls hl => ?_)
  unfold f_Mo_number at h
  refine lv_aload_n hx hb d_Mo_number_0 rfl (lv_at hl 0 rfl) ?_
  refine lv_iload_n hx hb d_Mo_number_1 rfl (lv_at hl 1 rfl) ?_
  obtain ⟨r1, er1, h⟩ := ok_b h
  refine z_vl (rest := []) C0 hw (c_Mo_fetchNumber x1 q r1 er1) mw_Mo_fetchNumber ml_Mo_164 0 rfl ⟨Nat.le_of_ble_eq_true rfl, Nat.le_of_ble_eq_true rfl⟩ ⟨Nat.le_refl 0, Nat.le_refl 0⟩ rfl hl.1 rfl (Nat.le_of_ble_eq_true rfl) d_Mo_number_2 (fun H locs hw => ?_)
  refine lv_lstore_n (lv' := [(2, .long r1.1), (0, .ref (ad 0)), (1, .int x1)]) hx hb d_Mo_number_5 rfl hl (by decide) rfl (fun ls hl => ?_)
  refine lv_aload_n hx hb d_Mo_number_6 rfl (lv_at hl 1 rfl) ?_
  refine lv_aload_n hx hb d_Mo_number_7 rfl (lv_at hl 1 rfl) ?_
  refine gfM_0_next C0 hw fl_Mo_111 d_Mo_number_8 ?_
  refine lv_aload_n hx hb d_Mo_number_11 rfl (lv_at hl 1 rfl) ?_
  refine gfM_0_length C0 hw fl_Mo_108 d_Mo_number_12 ?_
  refine lv_i2l hx hb d_Mo_number_15 rfl ?_
  refine lv_ladd hx hb d_Mo_number_16 ?_
  refine pfM_0_goes C0 hw fl_Mo_173 d_Mo_number_17 (fun H locs hw => ?_)
  obtain ⟨q2, eq2, h⟩ := ok_n h
  rw [← eq2] at hw
  refine lv_lload_n hx hb d_Mo_number_20 rfl (lv_at hl 0 rfl) ?_
  have ho := Option.some.inj h
  subst ho
  exact z_rtl C0 hw d_Mo_number_21
def kb_Mo_lowest_5 (ih5 : Int64 × Int32 × Int64 × Int32 → Option Int64) (x0 : Int64) (x2 : Int32) (x3 : Int64) (x5 : Int32) (q : z_Sg) : Option Int64 :=
  if x2 ≤ x5 then (some x3) else (z_nm ((x3 ||| (x0 &&& (z_lshl (255 : Int64) ((8 : Int32) * x5))))) (fun n2 => z_nm (x5 + (1 : Int32)) (fun n3 => ih5 (x0, x2, n2, n3))))
def k_Mo_lowest_5 (x0 : Int64) (x2 : Int32) (x3 : Int64) (x5 : Int32) (q : z_Sg) : Option Int64 := z_lo (fun ih5 a => kb_Mo_lowest_5 ih5 a.1 a.2.1 a.2.2.1 a.2.2.2 q) 2000 (x0, x2, x3, x5)
def f_Mo_lowest (x0 : Int64) (x2 : Int32) (q : z_Sg) : Option Int64 :=
  k_Mo_lowest_5 x0 x2 (0 : Int64) (0 : Int32) q
set_option maxHeartbeats 4000000 in
set_option maxRecDepth 100000 in
theorem wb_Mo_lowest_5 {p : Program} {l : Launch} {e : Env} {s : State} {m : MethodId} {args : Array Value} {below : List Frame} {meth : Method} {c : Code} {D : va_G} {A : Nat → Prop} {ad : Nat → Nat} {ca : Nat → ClassId} (o : Int64) (C0 : z_cx z_RMo b_Mo_lowest 6 (some .long) D (z_Mt ca) A p s m args meth c) (q : z_Sg) (ih5 : Int64 × Int32 × Int64 × Int32 → Option Int64) (hi5 : ∀ a : Int64 × Int32 × Int64 × Int32, ih5 a = some o → ∀ (H : Heap) (locs : List Loc) (ls : Array Slot), z_wd D (z_M ad ca q) A s H locs → lv_has ls 6 [(0, .long a.1), (2, .int a.2.1), (3, .long a.2.2.1), (5, .int a.2.2.2)] → W p l e (z_rm 0 0) s m args below meth c H locs 0 0 (z_ql below D (z_Mt ca) (z_M ad ca q) A s args o) (F0 m 5 ls [])) (x0 : Int64) (x2 : Int32) (x3 : Int64) (x5 : Int32) (h : kb_Mo_lowest_5 ih5 x0 x2 x3 x5 q = some o) : ∀ (H : Heap) (locs : List Loc) (ls : Array Slot), z_wd D (z_M ad ca q) A s H locs → lv_has ls 6 [(0, .long x0), (2, .int x2), (3, .long x3), (5, .int x5)] → W p l e (z_rm 0 0) s m args below meth c H locs 0 0 (z_ql below D (z_Mt ca) (z_M ad ca q) A s args o) (F0 m 5 ls []) := by
  obtain ⟨hx, hb, hr, hlk, hml, hown, hts, hK, hA⟩ := id C0
  intro H locs ls hw hl
  refine lv_iload hx hb d_Mo_lowest_5 (lv_at hl 3 rfl) ?_
  refine lv_iload_n hx hb d_Mo_lowest_7 rfl (lv_at hl 1 rfl) ?_
  refine lv_icmp_ge (tgt := 31) hx hb d_Mo_lowest_8 (by decide) (fun c1 => ?_) (fun c1 => ?_)
  · have h := ok_t h c1
    refine lv_lload_n hx hb d_Mo_lowest_31 rfl (lv_at hl 2 rfl) ?_
    have ho := Option.some.inj h
    subst ho
    exact z_rtl C0 hw d_Mo_lowest_32
  · have h := ok_f h c1
    refine lv_lload_n hx hb d_Mo_lowest_11 rfl (lv_at hl 2 rfl) ?_
    refine lv_lload_n hx hb d_Mo_lowest_12 rfl (lv_at hl 0 rfl) ?_
    refine lv_ldc2 (own := z_RMo) hx hb hown (hts _ kl_Mo_106) d_Mo_lowest_13 ?_
    refine lv_bipush (v := (8 : Int32)) hx hb d_Mo_lowest_16 (by decide) ?_
    refine lv_iload hx hb d_Mo_lowest_18 (lv_at hl 3 rfl) ?_
    refine lv_imul hx hb d_Mo_lowest_20 ?_
    refine lv_lshl (v := (z_lshl (255 : Int64) ((8 : Int32) * x5))) hx hb d_Mo_lowest_21 rfl ?_
    refine lv_land hx hb d_Mo_lowest_22 ?_
    refine lv_lor hx hb d_Mo_lowest_23 ?_
    obtain ⟨n2, en2, h⟩ := ok_n h
    refine z_tl en2 ?_
    refine lv_lstore_n (lv' := [(3, .long n2), (0, .long x0), (2, .int x2), (5, .int x5)]) hx hb d_Mo_lowest_24 rfl hl (by decide) rfl (fun ls hl => ?_)
    obtain ⟨n3, en3, h⟩ := ok_n h
    refine lv_iinc (v := n3) (lv' := [(5, .int n3), (3, .long n2), (0, .long x0), (2, .int x2)]) hx hb d_Mo_lowest_25 hl (k := 3) rfl (by rw [en3]; rfl) (by decide) rfl (fun ls hl => ?_)
    refine lv_goto (tgt := 5) hx hb d_Mo_lowest_28 (by decide) ?_
    exact hi5 (x0, x2, n2, n3) h H locs ls hw (lv_sub hl [2, 3, 1, 0] rfl)
theorem w_Mo_lowest_5 {p : Program} {l : Launch} {e : Env} {s : State} {m : MethodId} {args : Array Value} {below : List Frame} {meth : Method} {c : Code} {D : va_G} {A : Nat → Prop} {ad : Nat → Nat} {ca : Nat → ClassId} (o : Int64) (C0 : z_cx z_RMo b_Mo_lowest 6 (some .long) D (z_Mt ca) A p s m args meth c) (q : z_Sg) (x0 : Int64) (x2 : Int32) (x3 : Int64) (x5 : Int32) (h : k_Mo_lowest_5 x0 x2 x3 x5 q = some o) : ∀ (H : Heap) (locs : List Loc) (ls : Array Slot), z_wd D (z_M ad ca q) A s H locs → lv_has ls 6 [(0, .long x0), (2, .int x2), (3, .long x3), (5, .int x5)] → W p l e (z_rm 0 0) s m args below meth c H locs 0 0 (z_ql below D (z_Mt ca) (z_M ad ca q) A s args o) (F0 m 5 ls []) := by
  have key : ∀ (n : Nat) (a : Int64 × Int32 × Int64 × Int32), z_lo (fun ih5 a => kb_Mo_lowest_5 ih5 a.1 a.2.1 a.2.2.1 a.2.2.2 q) n a = some o → ∀ (H : Heap) (locs : List Loc) (ls : Array Slot), z_wd D (z_M ad ca q) A s H locs → lv_has ls 6 [(0, .long a.1), (2, .int a.2.1), (3, .long a.2.2.1), (5, .int a.2.2.2)] → W p l e (z_rm 0 0) s m args below meth c H locs 0 0 (z_ql below D (z_Mt ca) (z_M ad ca q) A s args o) (F0 m 5 ls []) := by
    intro n
    induction n with
    | zero => intro a h; cases h
    | succ n ih => exact fun a h => wb_Mo_lowest_5 o C0 q (z_lo (fun ih5 a => kb_Mo_lowest_5 ih5 a.1 a.2.1 a.2.2.1 a.2.2.2 q) n) ih a.1 a.2.1 a.2.2.1 a.2.2.2 h
  exact key 2000 (x0, x2, x3, x5) h
set_option maxHeartbeats 4000000 in
set_option maxRecDepth 100000 in
theorem c_Mo_lowest {l : Launch} {D : va_G} {ad : Nat → Nat} {ca : Nat → ClassId} (x0 : Int64) (x2 : Int32) (q : z_Sg) (o : Int64) (h : f_Mo_lowest x0 x2 q = some o) : z_cl l y_Mo_lowest b_Mo_lowest 6 (some .long) 0 0 D (z_Mt ca) (z_M ad ca q) (z_M ad ca q) [.long x0, .int x2] o := by
  refine z_cl_of (own := z_RMo) (by decide) rfl ?_
  intro p e s m below meth c A C0 hw
  obtain ⟨hx, hb, hr, hlk, hml, hown, hts, hK, hA⟩ := id C0
  generalize hH : s.heap = H at hw ⊢
  generalize hlo : ([] : List Loc) = locs at hw ⊢
  refine z_entry (lv := [(0, .long x0), (2, .int x2)]) (Nat.le_of_ble_eq_true rfl) rfl (fun ls hl => ?_)
  unfold f_Mo_lowest at h
  refine lv_lconst (v := (0 : Int64)) hx hb d_Mo_lowest_0 (by decide) ?_
  refine lv_lstore_n (lv' := [(3, .long (0 : Int64)), (0, .long x0), (2, .int x2)]) hx hb d_Mo_lowest_1 rfl hl (by decide) rfl (fun ls hl => ?_)
  refine lv_iconst (v := (0 : Int32)) hx hb d_Mo_lowest_2 (by decide) ?_
  refine lv_istore (lv' := [(5, .int (0 : Int32)), (3, .long (0 : Int64)), (0, .long x0), (2, .int x2)]) hx hb d_Mo_lowest_3 hl (by decide) rfl (fun ls hl => ?_)
  exact w_Mo_lowest_5 o C0 q x0 x2 (0 : Int64) (0 : Int32) h H locs ls hw (lv_sub hl [2, 3, 1, 0] rfl)
def k_Mo_place_101 (x1 : Int64) (x3 : Int64) (q : z_Sg) : Option Int64 :=
  some (x1 + x3)
def kb_Mo_place_74 (ih74 : Int64 × Int64 × Int32 → Option Int64) (x1 : Int64) (x3 : Int64) (x5 : Int32) (q : z_Sg) : Option Int64 :=
  if (z_gI q 12) ≤ x5 then (k_Mo_place_101 x1 x3 q) else (if (z_gI q 14) = (-1 : Int32) then (k_Mo_place_101 x1 x3 q) else (z_nm ((x3 + x3)) (fun n9 => z_nm (x5 + (1 : Int32)) (fun n10 => ih74 (x1, n9, n10)))))
def k_Mo_place_74 (x1 : Int64) (x3 : Int64) (x5 : Int32) (q : z_Sg) : Option Int64 := z_lo (fun ih74 a => kb_Mo_place_74 ih74 a.1 a.2.1 a.2.2 q) 2000 (x1, x3, x5)
def k_Mo_place_70 (x1 : Int64) (t0 : Int64) (q : z_Sg) : Option Int64 :=
  k_Mo_place_74 x1 t0 (0 : Int32) q
def k_Mo_place_47 (t0 : Int64) (t1 : Int64) (q : z_Sg) : Option Int64 :=
  z_nm ((t0 + t1)) (fun n4 => if (z_gI q 14) = (-1 : Int32) then (k_Mo_place_70 n4 (0 : Int64) q) else (if z_bad (z_gI q 14) 16 then none else (k_Mo_place_70 n4 (z_gM q 0 (z_gI q 14).toNatClampNeg) q)))
def k_Mo_place_25 (t0 : Int64) (t1 : Int64) (q : z_Sg) : Option Int64 :=
  if (z_gI q 13) = (-1 : Int32) then (k_Mo_place_47 (t0 + t1) (0 : Int64) q) else (if z_bad (z_gI q 13) 16 then none else (k_Mo_place_47 (t0 + t1) (z_gM q 0 (z_gI q 13).toNatClampNeg) q))
def f_Mo_place (q : z_Sg) : Option Int64 :=
  if (z_gI q 17) = 0 then (k_Mo_place_25 (z_gL q 6) (0 : Int64) q) else (k_Mo_place_25 (z_gL q 6) ((z_gL q 0) + ((z_gI q 6).toInt64)) q)
set_option maxHeartbeats 4000000 in
set_option maxRecDepth 100000 in
theorem w_Mo_place_101 {p : Program} {l : Launch} {e : Env} {s : State} {m : MethodId} {args : Array Value} {below : List Frame} {meth : Method} {c : Code} {D : va_G} {A : Nat → Prop} {ad : Nat → Nat} {ca : Nat → ClassId} (o : Int64) (C0 : z_cx z_RMo b_Mo_place 6 (some .long) D (z_Mt ca) A p s m args meth c) (q : z_Sg) (x1 : Int64) (x3 : Int64) (h : k_Mo_place_101 x1 x3 q = some o) : ∀ (H : Heap) (locs : List Loc) (ls : Array Slot), z_wd D (z_M ad ca q) A s H locs → lv_has ls 6 [(1, .long x1), (3, .long x3)] → W p l e (z_rm 0 0) s m args below meth c H locs 0 0 (z_ql below D (z_Mt ca) (z_M ad ca q) A s args o) (F0 m 101 ls []) := by
  obtain ⟨hx, hb, hr, hlk, hml, hown, hts, hK, hA⟩ := id C0
  intro H locs ls hw hl
  refine lv_lload_n hx hb d_Mo_place_101 rfl (lv_at hl 0 rfl) ?_
  refine lv_lload_n hx hb d_Mo_place_102 rfl (lv_at hl 1 rfl) ?_
  refine lv_ladd hx hb d_Mo_place_103 ?_
  have ho := Option.some.inj h
  subst ho
  exact z_rtl C0 hw d_Mo_place_104
set_option maxHeartbeats 4000000 in
set_option maxRecDepth 100000 in
theorem wb_Mo_place_74 {p : Program} {l : Launch} {e : Env} {s : State} {m : MethodId} {args : Array Value} {below : List Frame} {meth : Method} {c : Code} {D : va_G} {A : Nat → Prop} {ad : Nat → Nat} {ca : Nat → ClassId} (o : Int64) (C0 : z_cx z_RMo b_Mo_place 6 (some .long) D (z_Mt ca) A p s m args meth c) (q : z_Sg) (ih74 : Int64 × Int64 × Int32 → Option Int64) (hi74 : ∀ a : Int64 × Int64 × Int32, ih74 a = some o → ∀ (H : Heap) (locs : List Loc) (ls : Array Slot), z_wd D (z_M ad ca q) A s H locs → lv_has ls 6 [(0, .ref (ad 0)), (1, .long a.1), (3, .long a.2.1), (5, .int a.2.2)] → W p l e (z_rm 0 0) s m args below meth c H locs 0 0 (z_ql below D (z_Mt ca) (z_M ad ca q) A s args o) (F0 m 74 ls [])) (x1 : Int64) (x3 : Int64) (x5 : Int32) (h : kb_Mo_place_74 ih74 x1 x3 x5 q = some o) : ∀ (H : Heap) (locs : List Loc) (ls : Array Slot), z_wd D (z_M ad ca q) A s H locs → lv_has ls 6 [(0, .ref (ad 0)), (1, .long x1), (3, .long x3), (5, .int x5)] → W p l e (z_rm 0 0) s m args below meth c H locs 0 0 (z_ql below D (z_Mt ca) (z_M ad ca q) A s args o) (F0 m 74 ls []) := by
  obtain ⟨hx, hb, hr, hlk, hml, hown, hts, hK, hA⟩ := id C0
  intro H locs ls hw hl
  refine lv_iload hx hb d_Mo_place_74 (lv_at hl 3 rfl) ?_
  refine lv_aload_n hx hb d_Mo_place_76 rfl (lv_at hl 0 rfl) ?_
  refine gfM_0_scale C0 hw fl_Mo_161 d_Mo_place_77 ?_
  refine lv_icmp_ge (tgt := 101) hx hb d_Mo_place_80 (by decide) (fun c7 => ?_) (fun c7 => ?_)
  · have h := ok_t h c7
    exact w_Mo_place_101 o C0 q x1 x3 h H locs ls hw (lv_sub hl [1, 2] rfl)
  · have h := ok_f h c7
    refine lv_aload_n hx hb d_Mo_place_83 rfl (lv_at hl 0 rfl) ?_
    refine gfM_0_index C0 hw fl_Mo_148 d_Mo_place_84 ?_
    refine lv_iconst (v := (-1 : Int32)) hx hb d_Mo_place_87 (by decide) ?_
    refine lv_icmp_eq (tgt := 101) hx hb d_Mo_place_88 (by decide) (fun c8 => ?_) (fun c8 => ?_)
    · have h := ok_t h c8
      exact w_Mo_place_101 o C0 q x1 x3 h H locs ls hw (lv_sub hl [1, 2] rfl)
    · have h := ok_f h c8
      refine lv_lload_n hx hb d_Mo_place_91 rfl (lv_at hl 2 rfl) ?_
      refine lv_lload_n hx hb d_Mo_place_92 rfl (lv_at hl 2 rfl) ?_
      refine lv_ladd hx hb d_Mo_place_93 ?_
      obtain ⟨n9, en9, h⟩ := ok_n h
      refine z_tl en9 ?_
      refine lv_lstore_n (lv' := [(3, .long n9), (0, .ref (ad 0)), (1, .long x1), (5, .int x5)]) hx hb d_Mo_place_94 rfl hl (by decide) rfl (fun ls hl => ?_)
      obtain ⟨n10, en10, h⟩ := ok_n h
      refine lv_iinc (v := n10) (lv' := [(5, .int n10), (3, .long n9), (0, .ref (ad 0)), (1, .long x1)]) hx hb d_Mo_place_95 hl (k := 3) rfl (by rw [en10]; rfl) (by decide) rfl (fun ls hl => ?_)
      refine lv_goto (tgt := 74) hx hb d_Mo_place_98 (by decide) ?_
      exact hi74 (x1, n9, n10) h H locs ls hw (lv_sub hl [2, 3, 1, 0] rfl)
theorem w_Mo_place_74 {p : Program} {l : Launch} {e : Env} {s : State} {m : MethodId} {args : Array Value} {below : List Frame} {meth : Method} {c : Code} {D : va_G} {A : Nat → Prop} {ad : Nat → Nat} {ca : Nat → ClassId} (o : Int64) (C0 : z_cx z_RMo b_Mo_place 6 (some .long) D (z_Mt ca) A p s m args meth c) (q : z_Sg) (x1 : Int64) (x3 : Int64) (x5 : Int32) (h : k_Mo_place_74 x1 x3 x5 q = some o) : ∀ (H : Heap) (locs : List Loc) (ls : Array Slot), z_wd D (z_M ad ca q) A s H locs → lv_has ls 6 [(0, .ref (ad 0)), (1, .long x1), (3, .long x3), (5, .int x5)] → W p l e (z_rm 0 0) s m args below meth c H locs 0 0 (z_ql below D (z_Mt ca) (z_M ad ca q) A s args o) (F0 m 74 ls []) := by
  have key : ∀ (n : Nat) (a : Int64 × Int64 × Int32), z_lo (fun ih74 a => kb_Mo_place_74 ih74 a.1 a.2.1 a.2.2 q) n a = some o → ∀ (H : Heap) (locs : List Loc) (ls : Array Slot), z_wd D (z_M ad ca q) A s H locs → lv_has ls 6 [(0, .ref (ad 0)), (1, .long a.1), (3, .long a.2.1), (5, .int a.2.2)] → W p l e (z_rm 0 0) s m args below meth c H locs 0 0 (z_ql below D (z_Mt ca) (z_M ad ca q) A s args o) (F0 m 74 ls []) := by
    intro n
    induction n with
    | zero => intro a h; cases h
    | succ n ih => exact fun a h => wb_Mo_place_74 o C0 q (z_lo (fun ih74 a => kb_Mo_place_74 ih74 a.1 a.2.1 a.2.2 q) n) ih a.1 a.2.1 a.2.2 h
  exact key 2000 (x1, x3, x5) h
set_option maxHeartbeats 4000000 in
set_option maxRecDepth 100000 in
theorem w_Mo_place_70 {p : Program} {l : Launch} {e : Env} {s : State} {m : MethodId} {args : Array Value} {below : List Frame} {meth : Method} {c : Code} {D : va_G} {A : Nat → Prop} {ad : Nat → Nat} {ca : Nat → ClassId} (o : Int64) (C0 : z_cx z_RMo b_Mo_place 6 (some .long) D (z_Mt ca) A p s m args meth c) (q : z_Sg) (x1 : Int64) (t0 : Int64) (h : k_Mo_place_70 x1 t0 q = some o) : ∀ (H : Heap) (locs : List Loc) (ls : Array Slot), z_wd D (z_M ad ca q) A s H locs → lv_has ls 6 [(0, .ref (ad 0)), (1, .long x1)] → W p l e (z_rm 0 0) s m args below meth c H locs 0 0 (z_ql below D (z_Mt ca) (z_M ad ca q) A s args o) (F0 m 70 ls [.long t0]) := by
  obtain ⟨hx, hb, hr, hlk, hml, hown, hts, hK, hA⟩ := id C0
  intro H locs ls hw hl
  refine lv_lstore_n (lv' := [(3, .long t0), (0, .ref (ad 0)), (1, .long x1)]) hx hb d_Mo_place_70 rfl hl (by decide) rfl (fun ls hl => ?_)
  refine lv_iconst (v := (0 : Int32)) hx hb d_Mo_place_71 (by decide) ?_
  refine lv_istore (lv' := [(5, .int (0 : Int32)), (3, .long t0), (0, .ref (ad 0)), (1, .long x1)]) hx hb d_Mo_place_72 hl (by decide) rfl (fun ls hl => ?_)
  exact w_Mo_place_74 o C0 q x1 t0 (0 : Int32) h H locs ls hw (lv_sub hl [2, 3, 1, 0] rfl)
set_option maxHeartbeats 4000000 in
set_option maxRecDepth 100000 in
theorem w_Mo_place_47 {p : Program} {l : Launch} {e : Env} {s : State} {m : MethodId} {args : Array Value} {below : List Frame} {meth : Method} {c : Code} {D : va_G} {A : Nat → Prop} {ad : Nat → Nat} {ca : Nat → ClassId} (o : Int64) (C0 : z_cx z_RMo b_Mo_place 6 (some .long) D (z_Mt ca) A p s m args meth c) (q : z_Sg) (t0 : Int64) (t1 : Int64) (h : k_Mo_place_47 t0 t1 q = some o) : ∀ (H : Heap) (locs : List Loc) (ls : Array Slot), z_wd D (z_M ad ca q) A s H locs → lv_has ls 6 [(0, .ref (ad 0))] → W p l e (z_rm 0 0) s m args below meth c H locs 0 0 (z_ql below D (z_Mt ca) (z_M ad ca q) A s args o) (F0 m 47 ls [.long t1, .long t0]) := by
  obtain ⟨hx, hb, hr, hlk, hml, hown, hts, hK, hA⟩ := id C0
  intro H locs ls hw hl
  refine lv_ladd hx hb d_Mo_place_47 ?_
  obtain ⟨n4, en4, h⟩ := ok_n h
  refine z_tl en4 ?_
  refine lv_lstore_n (lv' := [(1, .long n4), (0, .ref (ad 0))]) hx hb d_Mo_place_48 rfl hl (by decide) rfl (fun ls hl => ?_)
  refine lv_aload_n hx hb d_Mo_place_49 rfl (lv_at hl 1 rfl) ?_
  refine gfM_0_index C0 hw fl_Mo_148 d_Mo_place_50 ?_
  refine lv_iconst (v := (-1 : Int32)) hx hb d_Mo_place_53 (by decide) ?_
  refine lv_icmp_ne (tgt := 61) hx hb d_Mo_place_54 (by decide) (fun c5 => ?_) (fun c5 => ?_)
  · have h := ok_f h c5
    refine lv_aload_n hx hb d_Mo_place_61 rfl (lv_at hl 1 rfl) ?_
    refine gfM_0_r C0 hw fl_Mo_14 d_Mo_place_62 ?_
    refine lv_aload_n hx hb d_Mo_place_65 rfl (lv_at hl 1 rfl) ?_
    refine gfM_0_index C0 hw fl_Mo_148 d_Mo_place_66 ?_
    obtain ⟨b6, h⟩ := ok_g h
    refine alM_2 C0 hw b6 d_Mo_place_69 ?_
    exact w_Mo_place_70 o C0 q n4 (z_gM q 0 (z_gI q 14).toNatClampNeg) h H locs ls hw (lv_sub hl [1, 0] rfl)
  · have h := ok_t h c5
    refine lv_lconst (v := (0 : Int64)) hx hb d_Mo_place_57 (by decide) ?_
    refine lv_goto (tgt := 70) hx hb d_Mo_place_58 (by decide) ?_
    exact w_Mo_place_70 o C0 q n4 (0 : Int64) h H locs ls hw (lv_sub hl [1, 0] rfl)
set_option maxHeartbeats 4000000 in
set_option maxRecDepth 100000 in
theorem w_Mo_place_25 {p : Program} {l : Launch} {e : Env} {s : State} {m : MethodId} {args : Array Value} {below : List Frame} {meth : Method} {c : Code} {D : va_G} {A : Nat → Prop} {ad : Nat → Nat} {ca : Nat → ClassId} (o : Int64) (C0 : z_cx z_RMo b_Mo_place 6 (some .long) D (z_Mt ca) A p s m args meth c) (q : z_Sg) (t0 : Int64) (t1 : Int64) (h : k_Mo_place_25 t0 t1 q = some o) : ∀ (H : Heap) (locs : List Loc) (ls : Array Slot), z_wd D (z_M ad ca q) A s H locs → lv_has ls 6 [(0, .ref (ad 0))] → W p l e (z_rm 0 0) s m args below meth c H locs 0 0 (z_ql below D (z_Mt ca) (z_M ad ca q) A s args o) (F0 m 25 ls [.long t1, .long t0]) := by
  obtain ⟨hx, hb, hr, hlk, hml, hown, hts, hK, hA⟩ := id C0
  intro H locs ls hw hl
  refine lv_ladd hx hb d_Mo_place_25 ?_
  refine lv_aload_n hx hb d_Mo_place_26 rfl (lv_at hl 0 rfl) ?_
  refine gfM_0_base C0 hw fl_Mo_145 d_Mo_place_27 ?_
  refine lv_iconst (v := (-1 : Int32)) hx hb d_Mo_place_30 (by decide) ?_
  refine lv_icmp_ne (tgt := 38) hx hb d_Mo_place_31 (by decide) (fun c2 => ?_) (fun c2 => ?_)
  · have h := ok_f h c2
    refine lv_aload_n hx hb d_Mo_place_38 rfl (lv_at hl 0 rfl) ?_
    refine gfM_0_r C0 hw fl_Mo_14 d_Mo_place_39 ?_
    refine lv_aload_n hx hb d_Mo_place_42 rfl (lv_at hl 0 rfl) ?_
    refine gfM_0_base C0 hw fl_Mo_145 d_Mo_place_43 ?_
    obtain ⟨b3, h⟩ := ok_g h
    refine alM_2 C0 hw b3 d_Mo_place_46 ?_
    exact w_Mo_place_47 o C0 q (t0 + t1) (z_gM q 0 (z_gI q 13).toNatClampNeg) h H locs ls hw (lv_sub hl [0] rfl)
  · have h := ok_t h c2
    refine lv_lconst (v := (0 : Int64)) hx hb d_Mo_place_34 (by decide) ?_
    refine lv_goto (tgt := 47) hx hb d_Mo_place_35 (by decide) ?_
    exact w_Mo_place_47 o C0 q (t0 + t1) (0 : Int64) h H locs ls hw (lv_sub hl [0] rfl)
set_option maxHeartbeats 4000000 in
set_option maxRecDepth 100000 in
theorem c_Mo_place {l : Launch} {D : va_G} {ad : Nat → Nat} {ca : Nat → ClassId} (q : z_Sg) (o : Int64) (h : f_Mo_place q = some o) : z_cl l y_Mo_place b_Mo_place 6 (some .long) 0 0 D (z_Mt ca) (z_M ad ca q) (z_M ad ca q) [.ref (ad 0)] o := by
  refine z_cl_of (own := z_RMo) (by decide) rfl ?_
  intro p e s m below meth c A C0 hw
  obtain ⟨hx, hb, hr, hlk, hml, hown, hts, hK, hA⟩ := id C0
  generalize hH : s.heap = H at hw ⊢
  generalize hlo : ([] : List Loc) = locs at hw ⊢
  refine z_entry (lv := [(0, .ref (ad 0))]) (Nat.le_of_ble_eq_true rfl) rfl (fun ls hl => ?_)
  unfold f_Mo_place at h
  refine lv_aload_n hx hb d_Mo_place_0 rfl (lv_at hl 0 rfl) ?_
  refine gfM_0_displacement C0 hw fl_Mo_154 d_Mo_place_1 ?_
  refine lv_aload_n hx hb d_Mo_place_4 rfl (lv_at hl 0 rfl) ?_
  refine gfM_0_relative C0 hw fl_Mo_151 d_Mo_place_5 ?_
  refine lv_if_eq (tgt := 24) hx hb d_Mo_place_8 (by decide) (fun c1 => ?_) (fun c1 => ?_)
  · have h := ok_t h c1
    refine lv_lconst (v := (0 : Int64)) hx hb d_Mo_place_24 (by decide) ?_
    exact w_Mo_place_25 o C0 q (z_gL q 6) (0 : Int64) h H locs ls hw (lv_sub hl [0] rfl)
  · have h := ok_f h c1
    refine lv_aload_n hx hb d_Mo_place_11 rfl (lv_at hl 0 rfl) ?_
    refine gfM_0_next C0 hw fl_Mo_111 d_Mo_place_12 ?_
    refine lv_aload_n hx hb d_Mo_place_15 rfl (lv_at hl 0 rfl) ?_
    refine gfM_0_length C0 hw fl_Mo_108 d_Mo_place_16 ?_
    refine lv_i2l hx hb d_Mo_place_19 rfl ?_
    refine lv_ladd hx hb d_Mo_place_20 ?_
    refine lv_goto (tgt := 25) hx hb d_Mo_place_21 (by decide) ?_
    exact w_Mo_place_25 o C0 q (z_gL q 6) ((z_gL q 0) + ((z_gI q 6).toInt64)) h H locs ls hw (lv_sub hl [0] rfl)
def k_Mo_ofStack_21 (t0 : Int32) (q : z_Sg) : Option Int32 :=
  z_gd (z_bo t0) (some t0)
def k_Mo_ofStack_16 (q : z_Sg) : Option Int32 :=
  k_Mo_ofStack_21 (1 : Int32) q
def f_Mo_ofStack (q : z_Sg) : Option Int32 :=
  if (z_gI q 13) = (4 : Int32) then (k_Mo_ofStack_16 q) else (if (z_gI q 13) = (5 : Int32) then (k_Mo_ofStack_16 q) else (k_Mo_ofStack_21 (0 : Int32) q))
set_option maxHeartbeats 4000000 in
set_option maxRecDepth 100000 in
theorem w_Mo_ofStack_21 {p : Program} {l : Launch} {e : Env} {s : State} {m : MethodId} {args : Array Value} {below : List Frame} {meth : Method} {c : Code} {D : va_G} {A : Nat → Prop} {ad : Nat → Nat} {ca : Nat → ClassId} (o : Int32) (C0 : z_cx z_RMo b_Mo_ofStack 1 (some .boolean) D (z_Mt ca) A p s m args meth c) (q : z_Sg) (t0 : Int32) (h : k_Mo_ofStack_21 t0 q = some o) : ∀ (H : Heap) (locs : List Loc) (ls : Array Slot), z_wd D (z_M ad ca q) A s H locs → lv_has ls 1 [] → W p l e (z_rm 0 0) s m args below meth c H locs 0 0 (z_qi below D (z_Mt ca) (z_M ad ca q) A s args o) (F0 m 21 ls [.int t0]) := by
  obtain ⟨hx, hb, hr, hlk, hml, hown, hts, hK, hA⟩ := id C0
  intro H locs ls hw hl
  obtain ⟨b2, h⟩ := ok_G h
  have ho := Option.some.inj h
  subst ho
  exact z_rtz C0 hw (z_bo_n b2) d_Mo_ofStack_21
set_option maxHeartbeats 4000000 in
set_option maxRecDepth 100000 in
theorem w_Mo_ofStack_16 {p : Program} {l : Launch} {e : Env} {s : State} {m : MethodId} {args : Array Value} {below : List Frame} {meth : Method} {c : Code} {D : va_G} {A : Nat → Prop} {ad : Nat → Nat} {ca : Nat → ClassId} (o : Int32) (C0 : z_cx z_RMo b_Mo_ofStack 1 (some .boolean) D (z_Mt ca) A p s m args meth c) (q : z_Sg) (h : k_Mo_ofStack_16 q = some o) : ∀ (H : Heap) (locs : List Loc) (ls : Array Slot), z_wd D (z_M ad ca q) A s H locs → lv_has ls 1 [] → W p l e (z_rm 0 0) s m args below meth c H locs 0 0 (z_qi below D (z_Mt ca) (z_M ad ca q) A s args o) (F0 m 16 ls []) := by
  obtain ⟨hx, hb, hr, hlk, hml, hown, hts, hK, hA⟩ := id C0
  intro H locs ls hw hl
  refine lv_iconst (v := (1 : Int32)) hx hb d_Mo_ofStack_16 (by decide) ?_
  refine lv_goto (tgt := 21) hx hb d_Mo_ofStack_17 (by decide) ?_
  exact w_Mo_ofStack_21 o C0 q (1 : Int32) h H locs ls hw (lv_sub hl [] rfl)
set_option maxHeartbeats 4000000 in
set_option maxRecDepth 100000 in
theorem c_Mo_ofStack {l : Launch} {D : va_G} {ad : Nat → Nat} {ca : Nat → ClassId} (q : z_Sg) (o : Int32) (h : f_Mo_ofStack q = some o) : z_ci l y_Mo_ofStack b_Mo_ofStack 1 (some .boolean) 0 0 D (z_Mt ca) (z_M ad ca q) (z_M ad ca q) [.ref (ad 0)] o := by
  refine z_ci_of (own := z_RMo) (by decide) rfl ?_
  intro p e s m below meth c A C0 hw
  obtain ⟨hx, hb, hr, hlk, hml, hown, hts, hK, hA⟩ := id C0
  generalize hH : s.heap = H at hw ⊢
  generalize hlo : ([] : List Loc) = locs at hw ⊢
  refine z_entry (lv := [(0, .ref (ad 0))]) (Nat.le_of_ble_eq_true rfl) rfl (fun ls hl => ?_)
  unfold f_Mo_ofStack at h
  refine lv_aload_n hx hb d_Mo_ofStack_0 rfl (lv_at hl 0 rfl) ?_
  refine gfM_0_base C0 hw fl_Mo_145 d_Mo_ofStack_1 ?_
  refine lv_iconst (v := (4 : Int32)) hx hb d_Mo_ofStack_4 (by decide) ?_
  refine lv_icmp_eq (tgt := 16) hx hb d_Mo_ofStack_5 (by decide) (fun c1 => ?_) (fun c1 => ?_)
  · have h := ok_t h c1
    exact w_Mo_ofStack_16 o C0 q h H locs ls hw (lv_sub hl [] rfl)
  · have h := ok_f h c1
    refine lv_aload_n hx hb d_Mo_ofStack_8 rfl (lv_at hl 0 rfl) ?_
    refine gfM_0_base C0 hw fl_Mo_145 d_Mo_ofStack_9 ?_
    refine lv_iconst (v := (5 : Int32)) hx hb d_Mo_ofStack_12 (by decide) ?_
    refine lv_icmp_ne (tgt := 20) hx hb d_Mo_ofStack_13 (by decide) (fun c3 => ?_) (fun c3 => ?_)
    · have h := ok_f h c3
      refine lv_iconst (v := (0 : Int32)) hx hb d_Mo_ofStack_20 (by decide) ?_
      exact w_Mo_ofStack_21 o C0 q (0 : Int32) h H locs ls hw (lv_sub hl [] rfl)
    · have h := ok_t h c3
      exact w_Mo_ofStack_16 o C0 q h H locs ls hw (lv_sub hl [] rfl)
def kb_Mo_held_5 (ih5 : Int32 × Int64 × Int32 → Option Int64) (x1 : Int32) (x2 : Int64) (x4 : Int32) (q : z_Sg) : Option Int64 :=
  if x1 ≤ x4 then (some x2) else (if z_bad x4 8 then none else ((f_Mo_byteAt (z_gM q 3 x4.toNatClampNeg) q).bind (fun r3 => z_nm ((x2 ||| (z_lshl (r3.toInt64) ((8 : Int32) * x4)))) (fun n4 => z_nm (x4 + (1 : Int32)) (fun n5 => ih5 (x1, n4, n5))))))
def k_Mo_held_5 (x1 : Int32) (x2 : Int64) (x4 : Int32) (q : z_Sg) : Option Int64 := z_lo (fun ih5 a => kb_Mo_held_5 ih5 a.1 a.2.1 a.2.2 q) 2000 (x1, x2, x4)
def f_Mo_held (x1 : Int32) (q : z_Sg) : Option Int64 :=
  k_Mo_held_5 x1 (0 : Int64) (0 : Int32) q
set_option maxHeartbeats 4000000 in
set_option maxRecDepth 100000 in
theorem wb_Mo_held_5 {p : Program} {l : Launch} {e : Env} {s : State} {m : MethodId} {args : Array Value} {below : List Frame} {meth : Method} {c : Code} {D : va_G} {A : Nat → Prop} {ad : Nat → Nat} {ca : Nat → ClassId} (o : Int64) (C0 : z_cx z_RMo b_Mo_held 5 (some .long) D (z_Mt ca) A p s m args meth c) (q : z_Sg) (ih5 : Int32 × Int64 × Int32 → Option Int64) (hi5 : ∀ a : Int32 × Int64 × Int32, ih5 a = some o → ∀ (H : Heap) (locs : List Loc) (ls : Array Slot), z_wd D (z_M ad ca q) A s H locs → lv_has ls 5 [(0, .ref (ad 0)), (1, .int a.1), (2, .long a.2.1), (4, .int a.2.2)] → W p l e (z_rm 1 22) s m args below meth c H locs 0 0 (z_ql below D (z_Mt ca) (z_M ad ca q) A s args o) (F0 m 5 ls [])) (x1 : Int32) (x2 : Int64) (x4 : Int32) (h : kb_Mo_held_5 ih5 x1 x2 x4 q = some o) : ∀ (H : Heap) (locs : List Loc) (ls : Array Slot), z_wd D (z_M ad ca q) A s H locs → lv_has ls 5 [(0, .ref (ad 0)), (1, .int x1), (2, .long x2), (4, .int x4)] → W p l e (z_rm 1 22) s m args below meth c H locs 0 0 (z_ql below D (z_Mt ca) (z_M ad ca q) A s args o) (F0 m 5 ls []) := by
  obtain ⟨hx, hb, hr, hlk, hml, hown, hts, hK, hA⟩ := id C0
  intro H locs ls hw hl
  refine lv_iload hx hb d_Mo_held_5 (lv_at hl 3 rfl) ?_
  refine lv_iload_n hx hb d_Mo_held_7 rfl (lv_at hl 1 rfl) ?_
  refine lv_icmp_ge (tgt := 38) hx hb d_Mo_held_8 (by decide) (fun c1 => ?_) (fun c1 => ?_)
  · have h := ok_t h c1
    refine lv_lload_n hx hb d_Mo_held_38 rfl (lv_at hl 2 rfl) ?_
    have ho := Option.some.inj h
    subst ho
    exact z_rtl C0 hw d_Mo_held_39
  · have h := ok_f h c1
    refine lv_lload_n hx hb d_Mo_held_11 rfl (lv_at hl 2 rfl) ?_
    refine lv_aload_n hx hb d_Mo_held_12 rfl (lv_at hl 0 rfl) ?_
    refine lv_aload_n hx hb d_Mo_held_13 rfl (lv_at hl 0 rfl) ?_
    refine gfM_0_lies C0 hw fl_Mo_39 d_Mo_held_14 ?_
    refine lv_iload hx hb d_Mo_held_17 (lv_at hl 3 rfl) ?_
    obtain ⟨b2, h⟩ := ok_g h
    refine alM_8 C0 hw b2 d_Mo_held_19 ?_
    obtain ⟨r3, er3, h⟩ := ok_b h
    refine z_vi (rest := [.long x2]) C0 hw (c_Mo_byteAt (z_gM q 3 x4.toNatClampNeg) q r3 er3) mw_Mo_byteAt ml_Mo_44 0 rfl ⟨Nat.le_of_ble_eq_true rfl, Nat.le_of_ble_eq_true rfl⟩ ⟨Nat.le_refl 0, Nat.le_refl 0⟩ rfl hl.1 rfl (Nat.le_of_ble_eq_true rfl) d_Mo_held_20 (fun H locs hw => ?_)
    refine lv_i2l hx hb d_Mo_held_23 rfl ?_
    refine lv_bipush (v := (8 : Int32)) hx hb d_Mo_held_24 (by decide) ?_
    refine lv_iload hx hb d_Mo_held_26 (lv_at hl 3 rfl) ?_
    refine lv_imul hx hb d_Mo_held_28 ?_
    refine lv_lshl (v := (z_lshl (r3.toInt64) ((8 : Int32) * x4))) hx hb d_Mo_held_29 rfl ?_
    refine lv_lor hx hb d_Mo_held_30 ?_
    obtain ⟨n4, en4, h⟩ := ok_n h
    refine z_tl en4 ?_
    refine lv_lstore_n (lv' := [(2, .long n4), (0, .ref (ad 0)), (1, .int x1), (4, .int x4)]) hx hb d_Mo_held_31 rfl hl (by decide) rfl (fun ls hl => ?_)
    obtain ⟨n5, en5, h⟩ := ok_n h
    refine lv_iinc (v := n5) (lv' := [(4, .int n5), (2, .long n4), (0, .ref (ad 0)), (1, .int x1)]) hx hb d_Mo_held_32 hl (k := 3) rfl (by rw [en5]; rfl) (by decide) rfl (fun ls hl => ?_)
    refine lv_goto (tgt := 5) hx hb d_Mo_held_35 (by decide) ?_
    exact hi5 (x1, n4, n5) h H locs ls hw (lv_sub hl [2, 3, 1, 0] rfl)
theorem w_Mo_held_5 {p : Program} {l : Launch} {e : Env} {s : State} {m : MethodId} {args : Array Value} {below : List Frame} {meth : Method} {c : Code} {D : va_G} {A : Nat → Prop} {ad : Nat → Nat} {ca : Nat → ClassId} (o : Int64) (C0 : z_cx z_RMo b_Mo_held 5 (some .long) D (z_Mt ca) A p s m args meth c) (q : z_Sg) (x1 : Int32) (x2 : Int64) (x4 : Int32) (h : k_Mo_held_5 x1 x2 x4 q = some o) : ∀ (H : Heap) (locs : List Loc) (ls : Array Slot), z_wd D (z_M ad ca q) A s H locs → lv_has ls 5 [(0, .ref (ad 0)), (1, .int x1), (2, .long x2), (4, .int x4)] → W p l e (z_rm 1 22) s m args below meth c H locs 0 0 (z_ql below D (z_Mt ca) (z_M ad ca q) A s args o) (F0 m 5 ls []) := by
  have key : ∀ (n : Nat) (a : Int32 × Int64 × Int32), z_lo (fun ih5 a => kb_Mo_held_5 ih5 a.1 a.2.1 a.2.2 q) n a = some o → ∀ (H : Heap) (locs : List Loc) (ls : Array Slot), z_wd D (z_M ad ca q) A s H locs → lv_has ls 5 [(0, .ref (ad 0)), (1, .int a.1), (2, .long a.2.1), (4, .int a.2.2)] → W p l e (z_rm 1 22) s m args below meth c H locs 0 0 (z_ql below D (z_Mt ca) (z_M ad ca q) A s args o) (F0 m 5 ls []) := by
    intro n
    induction n with
    | zero => intro a h; cases h
    | succ n ih => exact fun a h => wb_Mo_held_5 o C0 q (z_lo (fun ih5 a => kb_Mo_held_5 ih5 a.1 a.2.1 a.2.2 q) n) ih a.1 a.2.1 a.2.2 h
  exact key 2000 (x1, x2, x4) h
set_option maxHeartbeats 4000000 in
set_option maxRecDepth 100000 in
theorem c_Mo_held {l : Launch} {D : va_G} {ad : Nat → Nat} {ca : Nat → ClassId} (x1 : Int32) (q : z_Sg) (o : Int64) (h : f_Mo_held x1 q = some o) : z_cl l y_Mo_held b_Mo_held 5 (some .long) 1 22 D (z_Mt ca) (z_M ad ca q) (z_M ad ca q) [.ref (ad 0), .int x1] o := by
  refine z_cl_of (own := z_RMo) (by decide) rfl ?_
  intro p e s m below meth c A C0 hw
  obtain ⟨hx, hb, hr, hlk, hml, hown, hts, hK, hA⟩ := id C0
  generalize hH : s.heap = H at hw ⊢
  generalize hlo : ([] : List Loc) = locs at hw ⊢
  refine z_entry (lv := [(0, .ref (ad 0)), (1, .int x1)]) (Nat.le_of_ble_eq_true rfl) rfl (fun ls hl => ?_)
  unfold f_Mo_held at h
  refine lv_lconst (v := (0 : Int64)) hx hb d_Mo_held_0 (by decide) ?_
  refine lv_lstore_n (lv' := [(2, .long (0 : Int64)), (0, .ref (ad 0)), (1, .int x1)]) hx hb d_Mo_held_1 rfl hl (by decide) rfl (fun ls hl => ?_)
  refine lv_iconst (v := (0 : Int32)) hx hb d_Mo_held_2 (by decide) ?_
  refine lv_istore (lv' := [(4, .int (0 : Int32)), (2, .long (0 : Int64)), (0, .ref (ad 0)), (1, .int x1)]) hx hb d_Mo_held_3 hl (by decide) rfl (fun ls hl => ?_)
  exact w_Mo_held_5 o C0 q x1 (0 : Int64) (0 : Int32) h H locs ls hw (lv_sub hl [2, 3, 1, 0] rfl)
def k_Mo_isHigh_28 (t0 : Int32) (q : z_Sg) : Option Int32 :=
  z_gd (z_bo t0) (some t0)
def k_Mo_isHigh_27 (q : z_Sg) : Option Int32 :=
  k_Mo_isHigh_28 (0 : Int32) q
def f_Mo_isHigh (x1 : Int32) (x2 : Int32) (q : z_Sg) : Option Int32 :=
  if x2 = (1 : Int32) then (if (z_gI q 10) = 0 then (if x1 < (4 : Int32) then (k_Mo_isHigh_27 q) else (if (8 : Int32) ≤ x1 then (k_Mo_isHigh_27 q) else (k_Mo_isHigh_28 (1 : Int32) q))) else (k_Mo_isHigh_27 q)) else (k_Mo_isHigh_27 q)
set_option maxHeartbeats 4000000 in
set_option maxRecDepth 100000 in
theorem w_Mo_isHigh_28 {p : Program} {l : Launch} {e : Env} {s : State} {m : MethodId} {args : Array Value} {below : List Frame} {meth : Method} {c : Code} {D : va_G} {A : Nat → Prop} {ad : Nat → Nat} {ca : Nat → ClassId} (o : Int32) (C0 : z_cx z_RMo b_Mo_isHigh 3 (some .boolean) D (z_Mt ca) A p s m args meth c) (q : z_Sg) (t0 : Int32) (h : k_Mo_isHigh_28 t0 q = some o) : ∀ (H : Heap) (locs : List Loc) (ls : Array Slot), z_wd D (z_M ad ca q) A s H locs → lv_has ls 3 [] → W p l e (z_rm 0 0) s m args below meth c H locs 0 0 (z_qi below D (z_Mt ca) (z_M ad ca q) A s args o) (F0 m 28 ls [.int t0]) := by
  obtain ⟨hx, hb, hr, hlk, hml, hown, hts, hK, hA⟩ := id C0
  intro H locs ls hw hl
  obtain ⟨b2, h⟩ := ok_G h
  have ho := Option.some.inj h
  subst ho
  exact z_rtz C0 hw (z_bo_n b2) d_Mo_isHigh_28
set_option maxHeartbeats 4000000 in
set_option maxRecDepth 100000 in
theorem w_Mo_isHigh_27 {p : Program} {l : Launch} {e : Env} {s : State} {m : MethodId} {args : Array Value} {below : List Frame} {meth : Method} {c : Code} {D : va_G} {A : Nat → Prop} {ad : Nat → Nat} {ca : Nat → ClassId} (o : Int32) (C0 : z_cx z_RMo b_Mo_isHigh 3 (some .boolean) D (z_Mt ca) A p s m args meth c) (q : z_Sg) (h : k_Mo_isHigh_27 q = some o) : ∀ (H : Heap) (locs : List Loc) (ls : Array Slot), z_wd D (z_M ad ca q) A s H locs → lv_has ls 3 [] → W p l e (z_rm 0 0) s m args below meth c H locs 0 0 (z_qi below D (z_Mt ca) (z_M ad ca q) A s args o) (F0 m 27 ls []) := by
  obtain ⟨hx, hb, hr, hlk, hml, hown, hts, hK, hA⟩ := id C0
  intro H locs ls hw hl
  refine lv_iconst (v := (0 : Int32)) hx hb d_Mo_isHigh_27 (by decide) ?_
  exact w_Mo_isHigh_28 o C0 q (0 : Int32) h H locs ls hw (lv_sub hl [] rfl)
set_option maxHeartbeats 4000000 in
set_option maxRecDepth 100000 in
theorem c_Mo_isHigh {l : Launch} {D : va_G} {ad : Nat → Nat} {ca : Nat → ClassId} (x1 : Int32) (x2 : Int32) (q : z_Sg) (o : Int32) (h : f_Mo_isHigh x1 x2 q = some o) : z_ci l y_Mo_isHigh b_Mo_isHigh 3 (some .boolean) 0 0 D (z_Mt ca) (z_M ad ca q) (z_M ad ca q) [.ref (ad 0), .int x1, .int x2] o := by
  refine z_ci_of (own := z_RMo) (by decide) rfl ?_
  intro p e s m below meth c A C0 hw
  obtain ⟨hx, hb, hr, hlk, hml, hown, hts, hK, hA⟩ := id C0
  generalize hH : s.heap = H at hw ⊢
  generalize hlo : ([] : List Loc) = locs at hw ⊢
  refine z_entry (lv := [(0, .ref (ad 0)), (1, .int x1), (2, .int x2)]) (Nat.le_of_ble_eq_true rfl) rfl (fun ls hl => ?_)
  unfold f_Mo_isHigh at h
  refine lv_iload_n hx hb d_Mo_isHigh_0 rfl (lv_at hl 2 rfl) ?_
  refine lv_iconst (v := (1 : Int32)) hx hb d_Mo_isHigh_1 (by decide) ?_
  refine lv_icmp_ne (tgt := 27) hx hb d_Mo_isHigh_2 (by decide) (fun c1 => ?_) (fun c1 => ?_)
  · have h := ok_f h c1
    exact w_Mo_isHigh_27 o C0 q h H locs ls hw (lv_sub hl [] rfl)
  · have h := ok_t h c1
    refine lv_aload_n hx hb d_Mo_isHigh_5 rfl (lv_at hl 0 rfl) ?_
    refine gfM_0_rex C0 hw fl_Mo_121 d_Mo_isHigh_6 ?_
    refine lv_if_ne (tgt := 27) hx hb d_Mo_isHigh_9 (by decide) (fun c3 => ?_) (fun c3 => ?_)
    · have h := ok_f h c3
      exact w_Mo_isHigh_27 o C0 q h H locs ls hw (lv_sub hl [] rfl)
    · have h := ok_t h c3
      refine lv_iload_n hx hb d_Mo_isHigh_12 rfl (lv_at hl 1 rfl) ?_
      refine lv_iconst (v := (4 : Int32)) hx hb d_Mo_isHigh_13 (by decide) ?_
      refine lv_icmp_lt (tgt := 27) hx hb d_Mo_isHigh_14 (by decide) (fun c4 => ?_) (fun c4 => ?_)
      · have h := ok_t h c4
        exact w_Mo_isHigh_27 o C0 q h H locs ls hw (lv_sub hl [] rfl)
      · have h := ok_f h c4
        refine lv_iload_n hx hb d_Mo_isHigh_17 rfl (lv_at hl 1 rfl) ?_
        refine lv_bipush (v := (8 : Int32)) hx hb d_Mo_isHigh_18 (by decide) ?_
        refine lv_icmp_ge (tgt := 27) hx hb d_Mo_isHigh_20 (by decide) (fun c5 => ?_) (fun c5 => ?_)
        · have h := ok_t h c5
          exact w_Mo_isHigh_27 o C0 q h H locs ls hw (lv_sub hl [] rfl)
        · have h := ok_f h c5
          refine lv_iconst (v := (1 : Int32)) hx hb d_Mo_isHigh_23 (by decide) ?_
          refine lv_goto (tgt := 28) hx hb d_Mo_isHigh_24 (by decide) ?_
          exact w_Mo_isHigh_28 o C0 q (1 : Int32) h H locs ls hw (lv_sub hl [] rfl)
def k_Mo_get8_37 (t0 : Int64) (q : z_Sg) : Option Int64 :=
  some t0
def f_Mo_get8 (x1 : Int32) (x2 : Int32) (q : z_Sg) : Option Int64 :=
  (f_Mo_isHigh x1 x2 q).bind (fun r1 => if r1 = 0 then (if z_bad x1 16 then none else ((f_Mo_lowest (z_gM q 0 x1.toNatClampNeg) x2 q).bind (fun r4 => k_Mo_get8_37 r4 q))) else (if z_bad (x1 - (4 : Int32)) 16 then none else (k_Mo_get8_37 ((z_lushr (z_gM q 0 (x1 - (4 : Int32)).toNatClampNeg) (8 : Int32)) &&& (255 : Int64)) q)))
set_option maxHeartbeats 4000000 in
set_option maxRecDepth 100000 in
theorem w_Mo_get8_37 {p : Program} {l : Launch} {e : Env} {s : State} {m : MethodId} {args : Array Value} {below : List Frame} {meth : Method} {c : Code} {D : va_G} {A : Nat → Prop} {ad : Nat → Nat} {ca : Nat → ClassId} (o : Int64) (C0 : z_cx z_RMo b_Mo_get8 3 (some .long) D (z_Mt ca) A p s m args meth c) (q : z_Sg) (t0 : Int64) (h : k_Mo_get8_37 t0 q = some o) : ∀ (H : Heap) (locs : List Loc) (ls : Array Slot), z_wd D (z_M ad ca q) A s H locs → lv_has ls 3 [] → W p l e (z_rm 1 25) s m args below meth c H locs 0 0 (z_ql below D (z_Mt ca) (z_M ad ca q) A s args o) (F0 m 37 ls [.long t0]) := by
  obtain ⟨hx, hb, hr, hlk, hml, hown, hts, hK, hA⟩ := id C0
  intro H locs ls hw hl
  have ho := Option.some.inj h
  subst ho
  exact z_rtl C0 hw d_Mo_get8_37
set_option maxHeartbeats 4000000 in
set_option maxRecDepth 100000 in
theorem c_Mo_get8 {l : Launch} {D : va_G} {ad : Nat → Nat} {ca : Nat → ClassId} (x1 : Int32) (x2 : Int32) (q : z_Sg) (o : Int64) (h : f_Mo_get8 x1 x2 q = some o) : z_cl l y_Mo_get8 b_Mo_get8 3 (some .long) 1 25 D (z_Mt ca) (z_M ad ca q) (z_M ad ca q) [.ref (ad 0), .int x1, .int x2] o := by
  refine z_cl_of (own := z_RMo) (by decide) rfl ?_
  intro p e s m below meth c A C0 hw
  obtain ⟨hx, hb, hr, hlk, hml, hown, hts, hK, hA⟩ := id C0
  generalize hH : s.heap = H at hw ⊢
  generalize hlo : ([] : List Loc) = locs at hw ⊢
  refine z_entry (lv := [(0, .ref (ad 0)), (1, .int x1), (2, .int x2)]) (Nat.le_of_ble_eq_true rfl) rfl (fun ls hl => ?_)
  unfold f_Mo_get8 at h
  refine lv_aload_n hx hb d_Mo_get8_0 rfl (lv_at hl 0 rfl) ?_
  refine lv_iload_n hx hb d_Mo_get8_1 rfl (lv_at hl 1 rfl) ?_
  refine lv_iload_n hx hb d_Mo_get8_2 rfl (lv_at hl 2 rfl) ?_
  obtain ⟨r1, er1, h⟩ := ok_b h
  refine z_vi (rest := []) C0 hw (c_Mo_isHigh x1 x2 q r1 er1) mw_Mo_isHigh ml_Mo_176 0 rfl ⟨Nat.le_of_ble_eq_true rfl, Nat.le_of_ble_eq_true rfl⟩ ⟨Nat.le_refl 0, Nat.le_refl 0⟩ rfl hl.1 rfl (Nat.le_of_ble_eq_true rfl) d_Mo_get8_3 (fun H locs hw => ?_)
  refine lv_if_eq (tgt := 27) hx hb d_Mo_get8_6 (by decide) (fun c2 => ?_) (fun c2 => ?_)
  · have h := ok_t h c2
    refine lv_aload_n hx hb d_Mo_get8_27 rfl (lv_at hl 0 rfl) ?_
    refine gfM_0_r C0 hw fl_Mo_14 d_Mo_get8_28 ?_
    refine lv_iload_n hx hb d_Mo_get8_31 rfl (lv_at hl 1 rfl) ?_
    obtain ⟨b3, h⟩ := ok_g h
    refine alM_2 C0 hw b3 d_Mo_get8_32 ?_
    refine lv_iload_n hx hb d_Mo_get8_33 rfl (lv_at hl 2 rfl) ?_
    obtain ⟨r4, er4, h⟩ := ok_b h
    refine z_sl (rest := []) C0 hw (c_Mo_lowest (z_gM q 0 x1.toNatClampNeg) x2 q r4 er4) mw_Mo_lowest ml_Mo_180 ⟨Nat.le_of_ble_eq_true rfl, Nat.le_of_ble_eq_true rfl⟩ ⟨Nat.le_refl 0, Nat.le_refl 0⟩ rfl hl.1 rfl (Nat.le_of_ble_eq_true rfl) d_Mo_get8_34 (fun H locs hw => ?_)
    exact w_Mo_get8_37 o C0 q r4 h H locs ls hw (lv_sub hl [] rfl)
  · have h := ok_f h c2
    refine lv_aload_n hx hb d_Mo_get8_9 rfl (lv_at hl 0 rfl) ?_
    refine gfM_0_r C0 hw fl_Mo_14 d_Mo_get8_10 ?_
    refine lv_iload_n hx hb d_Mo_get8_13 rfl (lv_at hl 1 rfl) ?_
    refine lv_iconst (v := (4 : Int32)) hx hb d_Mo_get8_14 (by decide) ?_
    refine lv_isub hx hb d_Mo_get8_15 ?_
    obtain ⟨b5, h⟩ := ok_g h
    refine alM_2 C0 hw b5 d_Mo_get8_16 ?_
    refine lv_bipush (v := (8 : Int32)) hx hb d_Mo_get8_17 (by decide) ?_
    refine lv_lushr (v := (z_lushr (z_gM q 0 (x1 - (4 : Int32)).toNatClampNeg) (8 : Int32))) hx hb d_Mo_get8_19 rfl ?_
    refine lv_ldc2 (own := z_RMo) hx hb hown (hts _ kl_Mo_106) d_Mo_get8_20 ?_
    refine lv_land hx hb d_Mo_get8_23 ?_
    refine lv_goto (tgt := 37) hx hb d_Mo_get8_24 (by decide) ?_
    exact w_Mo_get8_37 o C0 q ((z_lushr (z_gM q 0 (x1 - (4 : Int32)).toNatClampNeg) (8 : Int32)) &&& (255 : Int64)) h H locs ls hw (lv_sub hl [] rfl)
def k_Mo_e_55 (t0 : Int64) (q : z_Sg) : Option (Int64 × z_Sg) :=
  some (t0, q)
def f_Mo_e (x1 : Int32) (x2 : Int32) (q : z_Sg) : Option (Int64 × z_Sg) :=
  if (z_gI q 7) = (3 : Int32) then ((f_Mo_plus (1 : Int32) q).bind (fun r7 => (f_Mo_get8 ((z_gI q 9) + r7) x1 q).bind (fun r8 => some (r8, q)))) else ((f_Mo_place q).bind (fun r2 => (f_Mo_ofStack q).bind (fun r3 => (f_Mo_lookUp r2 x1 x2 r3 q).bind (fun r4 => if (z_gI r4 4) = (-1 : Int32) then ((f_Mo_held x1 r4).bind (fun r6 => k_Mo_e_55 r6 r4)) else (k_Mo_e_55 (0 : Int64) r4)))))
set_option maxHeartbeats 4000000 in
set_option maxRecDepth 100000 in
theorem w_Mo_e_55 {p : Program} {l : Launch} {e : Env} {s : State} {m : MethodId} {args : Array Value} {below : List Frame} {meth : Method} {c : Code} {D : va_G} {A : Nat → Prop} {ad : Nat → Nat} {ca : Nat → ClassId} (o : (Int64 × z_Sg)) (C0 : z_cx z_RMo b_Mo_e 3 (some .long) D (z_Mt ca) A p s m args meth c) (q : z_Sg) (t0 : Int64) (h : k_Mo_e_55 t0 q = some o) : ∀ (H : Heap) (locs : List Loc) (ls : Array Slot), z_wd D (z_M ad ca q) A s H locs → lv_has ls 3 [] → W p l e (z_rm 4 107) s m args below meth c H locs 0 0 (z_ql below D (z_Mt ca) (z_M ad ca o.2) A s args o.1) (F0 m 55 ls [.long t0]) := by
  obtain ⟨hx, hb, hr, hlk, hml, hown, hts, hK, hA⟩ := id C0
  intro H locs ls hw hl
  have ho := Option.some.inj h
  subst ho
  exact z_rtl C0 hw d_Mo_e_55
set_option maxHeartbeats 4000000 in
set_option maxRecDepth 100000 in
theorem c_Mo_e {l : Launch} {D : va_G} {ad : Nat → Nat} {ca : Nat → ClassId} (x1 : Int32) (x2 : Int32) (q : z_Sg) (o : (Int64 × z_Sg)) (h : f_Mo_e x1 x2 q = some o) : z_cl l y_Mo_e b_Mo_e 3 (some .long) 4 107 D (z_Mt ca) (z_M ad ca q) (z_M ad ca o.2) [.ref (ad 0), .int x1, .int x2] o.1 := by
  refine z_cl_of (own := z_RMo) (by decide) rfl ?_
  intro p e s m below meth c A C0 hw
  obtain ⟨hx, hb, hr, hlk, hml, hown, hts, hK, hA⟩ := id C0
  generalize hH : s.heap = H at hw ⊢
  generalize hlo : ([] : List Loc) = locs at hw ⊢
  refine z_entry (lv := [(0, .ref (ad 0)), (1, .int x1), (2, .int x2)]) (Nat.le_of_ble_eq_true rfl) rfl (fun ls hl => ?_)
  unfold f_Mo_e at h
  refine lv_aload_n hx hb d_Mo_e_0 rfl (lv_at hl 0 rfl) ?_
  refine gfM_0_mod C0 hw fl_Mo_136 d_Mo_e_1 ?_
  refine lv_iconst (v := (3 : Int32)) hx hb d_Mo_e_4 (by decide) ?_
  refine lv_icmp_ne (tgt := 24) hx hb d_Mo_e_5 (by decide) (fun c1 => ?_) (fun c1 => ?_)
  · have h := ok_f h c1
    refine lv_aload_n hx hb d_Mo_e_24 rfl (lv_at hl 0 rfl) ?_
    refine lv_aload_n hx hb d_Mo_e_25 rfl (lv_at hl 0 rfl) ?_
    obtain ⟨r2, er2, h⟩ := ok_b h
    refine z_vl (rest := [.ref (ad 0)]) C0 hw (c_Mo_place q r2 er2) mw_Mo_place ml_Mo_193 0 rfl ⟨Nat.le_of_ble_eq_true rfl, Nat.le_of_ble_eq_true rfl⟩ ⟨Nat.le_refl 0, Nat.le_refl 0⟩ rfl hl.1 rfl (Nat.le_of_ble_eq_true rfl) d_Mo_e_26 (fun H locs hw => ?_)
    refine lv_iload_n hx hb d_Mo_e_29 rfl (lv_at hl 1 rfl) ?_
    refine lv_iload_n hx hb d_Mo_e_30 rfl (lv_at hl 2 rfl) ?_
    refine lv_aload_n hx hb d_Mo_e_31 rfl (lv_at hl 0 rfl) ?_
    obtain ⟨r3, er3, h⟩ := ok_b h
    refine z_vi (rest := [.int x2, .int x1, .long r2, .ref (ad 0)]) C0 hw (c_Mo_ofStack q r3 er3) mw_Mo_ofStack ml_Mo_197 0 rfl ⟨Nat.le_of_ble_eq_true rfl, Nat.le_of_ble_eq_true rfl⟩ ⟨Nat.le_refl 0, Nat.le_refl 0⟩ rfl hl.1 rfl (Nat.le_of_ble_eq_true rfl) d_Mo_e_32 (fun H locs hw => ?_)
    obtain ⟨r4, er4, h⟩ := ok_b h
    refine z_vv (rest := []) C0 hw (c_Mo_lookUp r2 x1 x2 r3 q r4 er4) mw_Mo_lookUp ml_Mo_95 0 rfl ⟨Nat.le_of_ble_eq_true rfl, Nat.le_of_ble_eq_true rfl⟩ ⟨Nat.le_refl 0, Nat.le_refl 0⟩ rfl hl.1 rfl (Nat.le_of_ble_eq_true rfl) d_Mo_e_35 (fun H locs hw => ?_)
    refine lv_aload_n hx hb d_Mo_e_38 rfl (lv_at hl 0 rfl) ?_
    refine gfM_0_refused C0 hw fl_Mo_28 d_Mo_e_39 ?_
    refine lv_iconst (v := (-1 : Int32)) hx hb d_Mo_e_42 (by decide) ?_
    refine lv_icmp_ne (tgt := 54) hx hb d_Mo_e_43 (by decide) (fun c5 => ?_) (fun c5 => ?_)
    · have h := ok_f h c5
      refine lv_lconst (v := (0 : Int64)) hx hb d_Mo_e_54 (by decide) ?_
      exact w_Mo_e_55 o C0 r4 (0 : Int64) h H locs ls hw (lv_sub hl [] rfl)
    · have h := ok_t h c5
      refine lv_aload_n hx hb d_Mo_e_46 rfl (lv_at hl 0 rfl) ?_
      refine lv_iload_n hx hb d_Mo_e_47 rfl (lv_at hl 1 rfl) ?_
      obtain ⟨r6, er6, h⟩ := ok_b h
      refine z_vl (rest := []) C0 hw (c_Mo_held x1 r4 r6 er6) mw_Mo_held ml_Mo_99 0 rfl ⟨Nat.le_of_ble_eq_true rfl, Nat.le_of_ble_eq_true rfl⟩ ⟨Nat.le_refl 0, Nat.le_refl 0⟩ rfl hl.1 rfl (Nat.le_of_ble_eq_true rfl) d_Mo_e_48 (fun H locs hw => ?_)
      refine lv_goto (tgt := 55) hx hb d_Mo_e_51 (by decide) ?_
      exact w_Mo_e_55 o C0 r4 r6 h H locs ls hw (lv_sub hl [] rfl)
  · have h := ok_t h c1
    refine lv_aload_n hx hb d_Mo_e_8 rfl (lv_at hl 0 rfl) ?_
    refine lv_aload_n hx hb d_Mo_e_9 rfl (lv_at hl 0 rfl) ?_
    refine gfM_0_rm C0 hw fl_Mo_142 d_Mo_e_10 ?_
    refine lv_aload_n hx hb d_Mo_e_13 rfl (lv_at hl 0 rfl) ?_
    refine lv_iconst (v := (1 : Int32)) hx hb d_Mo_e_14 (by decide) ?_
    obtain ⟨r7, er7, h⟩ := ok_b h
    refine z_vi (rest := [.int (z_gI q 9), .ref (ad 0)]) C0 hw (c_Mo_plus (1 : Int32) q r7 er7) mw_Mo_plus ml_Mo_157 0 rfl ⟨Nat.le_of_ble_eq_true rfl, Nat.le_of_ble_eq_true rfl⟩ ⟨Nat.le_refl 0, Nat.le_refl 0⟩ rfl hl.1 rfl (Nat.le_of_ble_eq_true rfl) d_Mo_e_15 (fun H locs hw => ?_)
    refine lv_iadd hx hb d_Mo_e_18 ?_
    refine lv_iload_n hx hb d_Mo_e_19 rfl (lv_at hl 1 rfl) ?_
    obtain ⟨r8, er8, h⟩ := ok_b h
    refine z_vl (rest := []) C0 hw (c_Mo_get8 ((z_gI q 9) + r7) x1 q r8 er8) mw_Mo_get8 ml_Mo_185 0 rfl ⟨Nat.le_of_ble_eq_true rfl, Nat.le_of_ble_eq_true rfl⟩ ⟨Nat.le_refl 0, Nat.le_refl 0⟩ rfl hl.1 rfl (Nat.le_of_ble_eq_true rfl) d_Mo_e_20 (fun H locs hw => ?_)
    have ho := Option.some.inj h
    subst ho
    exact z_rtl C0 hw d_Mo_e_23
def k_Mo_top_20 (t0 : Int32) (q : z_Sg) : Option Int32 :=
  z_gd (z_bo t0) (some t0)
def f_Mo_top (x0 : Int64) (x2 : Int32) (q : z_Sg) : Option Int32 :=
  if ((z_lushr x0 (((8 : Int32) * x2) - (1 : Int32))) &&& (1 : Int64)) = (1 : Int64) then (k_Mo_top_20 (1 : Int32) q) else (k_Mo_top_20 (0 : Int32) q)
set_option maxHeartbeats 4000000 in
set_option maxRecDepth 100000 in
theorem w_Mo_top_20 {p : Program} {l : Launch} {e : Env} {s : State} {m : MethodId} {args : Array Value} {below : List Frame} {meth : Method} {c : Code} {D : va_G} {A : Nat → Prop} {ad : Nat → Nat} {ca : Nat → ClassId} (o : Int32) (C0 : z_cx z_RMo b_Mo_top 3 (some .boolean) D (z_Mt ca) A p s m args meth c) (q : z_Sg) (t0 : Int32) (h : k_Mo_top_20 t0 q = some o) : ∀ (H : Heap) (locs : List Loc) (ls : Array Slot), z_wd D (z_M ad ca q) A s H locs → lv_has ls 3 [] → W p l e (z_rm 0 0) s m args below meth c H locs 0 0 (z_qi below D (z_Mt ca) (z_M ad ca q) A s args o) (F0 m 20 ls [.int t0]) := by
  obtain ⟨hx, hb, hr, hlk, hml, hown, hts, hK, hA⟩ := id C0
  intro H locs ls hw hl
  obtain ⟨b2, h⟩ := ok_G h
  have ho := Option.some.inj h
  subst ho
  exact z_rtz C0 hw (z_bo_n b2) d_Mo_top_20
set_option maxHeartbeats 4000000 in
set_option maxRecDepth 100000 in
theorem c_Mo_top {l : Launch} {D : va_G} {ad : Nat → Nat} {ca : Nat → ClassId} (x0 : Int64) (x2 : Int32) (q : z_Sg) (o : Int32) (h : f_Mo_top x0 x2 q = some o) : z_ci l y_Mo_top b_Mo_top 3 (some .boolean) 0 0 D (z_Mt ca) (z_M ad ca q) (z_M ad ca q) [.long x0, .int x2] o := by
  refine z_ci_of (own := z_RMo) (by decide) rfl ?_
  intro p e s m below meth c A C0 hw
  obtain ⟨hx, hb, hr, hlk, hml, hown, hts, hK, hA⟩ := id C0
  generalize hH : s.heap = H at hw ⊢
  generalize hlo : ([] : List Loc) = locs at hw ⊢
  refine z_entry (lv := [(0, .long x0), (2, .int x2)]) (Nat.le_of_ble_eq_true rfl) rfl (fun ls hl => ?_)
  unfold f_Mo_top at h
  refine lv_lload_n hx hb d_Mo_top_0 rfl (lv_at hl 0 rfl) ?_
  refine lv_bipush (v := (8 : Int32)) hx hb d_Mo_top_1 (by decide) ?_
  refine lv_iload_n hx hb d_Mo_top_3 rfl (lv_at hl 1 rfl) ?_
  refine lv_imul hx hb d_Mo_top_4 ?_
  refine lv_iconst (v := (1 : Int32)) hx hb d_Mo_top_5 (by decide) ?_
  refine lv_isub hx hb d_Mo_top_6 ?_
  refine lv_lushr (v := (z_lushr x0 (((8 : Int32) * x2) - (1 : Int32)))) hx hb d_Mo_top_7 rfl ?_
  refine lv_lconst (v := (1 : Int64)) hx hb d_Mo_top_8 (by decide) ?_
  refine lv_land hx hb d_Mo_top_9 ?_
  refine lv_lconst (v := (1 : Int64)) hx hb d_Mo_top_10 (by decide) ?_
  refine W.lcmp hx hb d_Mo_top_11 ?_
  refine lv_if_ne (tgt := 19) hx hb d_Mo_top_12 (by decide) (fun c1 => ?_) (fun c1 => ?_)
  · have h := ok_f h (fun z => c1 ((lg_cmp_eq _ _).mpr z))
    refine lv_iconst (v := (0 : Int32)) hx hb d_Mo_top_19 (by decide) ?_
    exact w_Mo_top_20 o C0 q (0 : Int32) h H locs ls hw (lv_sub hl [] rfl)
  · have h := ok_t h ((lg_cmp_eq _ _).mp c1)
    refine lv_iconst (v := (1 : Int32)) hx hb d_Mo_top_15 (by decide) ?_
    refine lv_goto (tgt := 20) hx hb d_Mo_top_16 (by decide) ?_
    exact w_Mo_top_20 o C0 q (1 : Int32) h H locs ls hw (lv_sub hl [] rfl)
def k_Mo_result_111 (t1 : Int32) (t2 : Int32) (q : z_Sg) : Option z_Sg :=
  if z_bad t1 7 then none else (z_nm (z_sN q 1 t1.toNatClampNeg (vp_nar .boolean t2)) (fun q10 => some q10))
def kb_Mo_result_50 (ih50 : Int64 × Int32 × Int32 × Int32 × Int32 × z_Sg → Option z_Sg) (x1 : Int64) (x3 : Int32) (x4 : Int32) (x5 : Int32) (x6 : Int32) (q : z_Sg) : Option z_Sg :=
  if (8 : Int32) ≤ x6 then (if z_bad (3 : Int32) 7 then none else (z_nm (z_sN q 1 (3 : Int32).toNatClampNeg (vp_nar .boolean x4)) (fun q4 => (f_Mo_top x1 x3 q4).bind (fun r5 => if z_bad (4 : Int32) 7 then none else (z_nm (z_sN q4 1 (4 : Int32).toNatClampNeg (vp_nar .boolean r5)) (fun q7 => if (x5 - x5 / (2 : Int32) * (2 : Int32)) = 0 then (k_Mo_result_111 (1 : Int32) (1 : Int32) q7) else (k_Mo_result_111 (1 : Int32) (0 : Int32) q7))))))) else (z_nm ((x5 + (((z_lushr x1 x6) &&& (1 : Int64)).toInt32))) (fun n11 => z_nm (x6 + (1 : Int32)) (fun n12 => ih50 (x1, x3, x4, n11, n12, q))))
def k_Mo_result_50 (x1 : Int64) (x3 : Int32) (x4 : Int32) (x5 : Int32) (x6 : Int32) (q : z_Sg) : Option z_Sg := z_lo (fun ih50 a => kb_Mo_result_50 ih50 a.1 a.2.1 a.2.2.1 a.2.2.2.1 a.2.2.2.2.1 a.2.2.2.2.2) 2000 (x1, x3, x4, x5, x6, q)
def k_Mo_result_39 (ih9 : Int64 × Int32 × Int32 × Int32 × Int32 × z_Sg → Option z_Sg) (x1 : Int64) (x3 : Int32) (x5 : Int32) (x6 : Int32) (t0 : Int32) (q : z_Sg) : Option z_Sg :=
  z_nm (x6 + (1 : Int32)) (fun n14 => ih9 (x1, x3, t0, x5, n14, q))
def k_Mo_result_38 (ih9 : Int64 × Int32 × Int32 × Int32 × Int32 × z_Sg → Option z_Sg) (x1 : Int64) (x3 : Int32) (x5 : Int32) (x6 : Int32) (q : z_Sg) : Option z_Sg :=
  k_Mo_result_39 ih9 x1 x3 x5 x6 (0 : Int32) q
def kb_Mo_result_9 (ih9 : Int64 × Int32 × Int32 × Int32 × Int32 × z_Sg → Option z_Sg) (x1 : Int64) (x3 : Int32) (x4 : Int32) (x5 : Int32) (x6 : Int32) (q : z_Sg) : Option z_Sg :=
  if ((8 : Int32) * x3) ≤ x6 then (k_Mo_result_50 x1 x3 x4 x5 (0 : Int32) q) else (if x4 = 0 then (k_Mo_result_38 ih9 x1 x3 x5 x6 q) else (if ((z_lushr x1 x6) &&& (1 : Int64)) = (0 : Int64) then (k_Mo_result_39 ih9 x1 x3 x5 x6 (1 : Int32) q) else (k_Mo_result_38 ih9 x1 x3 x5 x6 q)))
def k_Mo_result_9 (x1 : Int64) (x3 : Int32) (x4 : Int32) (x5 : Int32) (x6 : Int32) (q : z_Sg) : Option z_Sg := z_lo (fun ih9 a => kb_Mo_result_9 ih9 a.1 a.2.1 a.2.2.1 a.2.2.2.1 a.2.2.2.2.1 a.2.2.2.2.2) 2000 (x1, x3, x4, x5, x6, q)
def f_Mo_result (x1 : Int64) (x3 : Int32) (q : z_Sg) : Option z_Sg :=
  k_Mo_result_9 x1 x3 (1 : Int32) (0 : Int32) (0 : Int32) q
set_option maxHeartbeats 4000000 in
set_option maxRecDepth 100000 in
theorem w_Mo_result_111 {p : Program} {l : Launch} {e : Env} {s : State} {m : MethodId} {args : Array Value} {below : List Frame} {meth : Method} {c : Code} {D : va_G} {A : Nat → Prop} {ad : Nat → Nat} {ca : Nat → ClassId} (o : z_Sg) (C0 : z_cx z_RMo b_Mo_result 7 none D (z_Mt ca) A p s m args meth c) (q : z_Sg) (t1 : Int32) (t2 : Int32) (h : k_Mo_result_111 t1 t2 q = some o) : ∀ (H : Heap) (locs : List Loc) (ls : Array Slot), z_wd D (z_M ad ca q) A s H locs → lv_has ls 7 [] → W p l e (z_rm 1 22) s m args below meth c H locs 0 0 (z_qv below D (z_Mt ca) (z_M ad ca o) A s args) (F0 m 111 ls [.int t2, .int t1, .ref (ad 4)]) := by
  obtain ⟨hx, hb, hr, hlk, hml, hown, hts, hK, hA⟩ := id C0
  intro H locs ls hw hl
  obtain ⟨b9, h⟩ := ok_g h
  refine asM_4 C0 hw b9 d_Mo_result_111 (fun H locs hw => ?_)
  obtain ⟨q10, eq10, h⟩ := ok_n h
  rw [← eq10] at hw
  have ho := Option.some.inj h
  subst ho
  exact z_rtv C0 hw d_Mo_result_112
set_option maxHeartbeats 4000000 in
set_option maxRecDepth 100000 in
theorem wb_Mo_result_50 {p : Program} {l : Launch} {e : Env} {s : State} {m : MethodId} {args : Array Value} {below : List Frame} {meth : Method} {c : Code} {D : va_G} {A : Nat → Prop} {ad : Nat → Nat} {ca : Nat → ClassId} (o : z_Sg) (C0 : z_cx z_RMo b_Mo_result 7 none D (z_Mt ca) A p s m args meth c) (q : z_Sg) (ih50 : Int64 × Int32 × Int32 × Int32 × Int32 × z_Sg → Option z_Sg) (hi50 : ∀ a : Int64 × Int32 × Int32 × Int32 × Int32 × z_Sg, ih50 a = some o → ∀ (H : Heap) (locs : List Loc) (ls : Array Slot), z_wd D (z_M ad ca a.2.2.2.2.2) A s H locs → lv_has ls 7 [(0, .ref (ad 0)), (1, .long a.1), (3, .int a.2.1), (4, .int a.2.2.1), (5, .int a.2.2.2.1), (6, .int a.2.2.2.2.1)] → W p l e (z_rm 1 22) s m args below meth c H locs 0 0 (z_qv below D (z_Mt ca) (z_M ad ca o) A s args) (F0 m 50 ls [])) (x1 : Int64) (x3 : Int32) (x4 : Int32) (x5 : Int32) (x6 : Int32) (h : kb_Mo_result_50 ih50 x1 x3 x4 x5 x6 q = some o) : ∀ (H : Heap) (locs : List Loc) (ls : Array Slot), z_wd D (z_M ad ca q) A s H locs → lv_has ls 7 [(0, .ref (ad 0)), (1, .long x1), (3, .int x3), (4, .int x4), (5, .int x5), (6, .int x6)] → W p l e (z_rm 1 22) s m args below meth c H locs 0 0 (z_qv below D (z_Mt ca) (z_M ad ca o) A s args) (F0 m 50 ls []) := by
  obtain ⟨hx, hb, hr, hlk, hml, hown, hts, hK, hA⟩ := id C0
  intro H locs ls hw hl
  refine lv_iload hx hb d_Mo_result_50 (lv_at hl 5 rfl) ?_
  refine lv_bipush (v := (8 : Int32)) hx hb d_Mo_result_52 (by decide) ?_
  refine lv_icmp_ge (tgt := 75) hx hb d_Mo_result_54 (by decide) (fun c2 => ?_) (fun c2 => ?_)
  · have h := ok_t h c2
    refine lv_aload_n hx hb d_Mo_result_75 rfl (lv_at hl 0 rfl) ?_
    refine gfM_0_flag C0 hw fl_Mo_21 d_Mo_result_76 ?_
    refine lv_iconst (v := (3 : Int32)) hx hb d_Mo_result_79 (by decide) ?_
    refine lv_iload hx hb d_Mo_result_80 (lv_at hl 3 rfl) ?_
    obtain ⟨b3, h⟩ := ok_g h
    refine asM_4 C0 hw b3 d_Mo_result_82 (fun H locs hw => ?_)
    obtain ⟨q4, eq4, h⟩ := ok_n h
    rw [← eq4] at hw
    refine lv_aload_n hx hb d_Mo_result_83 rfl (lv_at hl 0 rfl) ?_
    refine gfM_0_flag C0 hw fl_Mo_21 d_Mo_result_84 ?_
    refine lv_iconst (v := (4 : Int32)) hx hb d_Mo_result_87 (by decide) ?_
    refine lv_lload_n hx hb d_Mo_result_88 rfl (lv_at hl 1 rfl) ?_
    refine lv_iload_n hx hb d_Mo_result_89 rfl (lv_at hl 2 rfl) ?_
    obtain ⟨r5, er5, h⟩ := ok_b h
    refine z_si (rest := [.int (4 : Int32), .ref (ad 4)]) C0 hw (c_Mo_top x1 x3 q4 r5 er5) mw_Mo_top ml_Mo_212 ⟨Nat.le_of_ble_eq_true rfl, Nat.le_of_ble_eq_true rfl⟩ ⟨Nat.le_refl 0, Nat.le_refl 0⟩ rfl hl.1 rfl (Nat.le_of_ble_eq_true rfl) d_Mo_result_90 (fun H locs hw => ?_)
    obtain ⟨b6, h⟩ := ok_g h
    refine asM_4 C0 hw b6 d_Mo_result_93 (fun H locs hw => ?_)
    obtain ⟨q7, eq7, h⟩ := ok_n h
    rw [← eq7] at hw
    refine lv_aload_n hx hb d_Mo_result_94 rfl (lv_at hl 0 rfl) ?_
    refine gfM_0_flag C0 hw fl_Mo_21 d_Mo_result_95 ?_
    refine lv_iconst (v := (1 : Int32)) hx hb d_Mo_result_98 (by decide) ?_
    refine lv_iload hx hb d_Mo_result_99 (lv_at hl 4 rfl) ?_
    refine lv_iconst (v := (2 : Int32)) hx hb d_Mo_result_101 (by decide) ?_
    refine lv_irem hx hb d_Mo_result_102 (by decide) ?_
    refine lv_if_ne (tgt := 110) hx hb d_Mo_result_103 (by decide) (fun c8 => ?_) (fun c8 => ?_)
    · have h := ok_f h c8
      refine lv_iconst (v := (0 : Int32)) hx hb d_Mo_result_110 (by decide) ?_
      exact w_Mo_result_111 o C0 q7 (1 : Int32) (0 : Int32) h H locs ls hw (lv_sub hl [] rfl)
    · have h := ok_t h c8
      refine lv_iconst (v := (1 : Int32)) hx hb d_Mo_result_106 (by decide) ?_
      refine lv_goto (tgt := 111) hx hb d_Mo_result_107 (by decide) ?_
      exact w_Mo_result_111 o C0 q7 (1 : Int32) (1 : Int32) h H locs ls hw (lv_sub hl [] rfl)
  · have h := ok_f h c2
    refine lv_iload hx hb d_Mo_result_57 (lv_at hl 4 rfl) ?_
    refine lv_lload_n hx hb d_Mo_result_59 rfl (lv_at hl 1 rfl) ?_
    refine lv_iload hx hb d_Mo_result_60 (lv_at hl 5 rfl) ?_
    refine lv_lushr (v := (z_lushr x1 x6)) hx hb d_Mo_result_62 rfl ?_
    refine lv_lconst (v := (1 : Int64)) hx hb d_Mo_result_63 (by decide) ?_
    refine lv_land hx hb d_Mo_result_64 ?_
    refine lv_l2i hx hb d_Mo_result_65 rfl ?_
    refine lv_iadd hx hb d_Mo_result_66 ?_
    obtain ⟨n11, en11, h⟩ := ok_n h
    refine z_ti en11 ?_
    refine lv_istore (lv' := [(5, .int n11), (0, .ref (ad 0)), (1, .long x1), (3, .int x3), (4, .int x4), (6, .int x6)]) hx hb d_Mo_result_67 hl (by decide) rfl (fun ls hl => ?_)
    obtain ⟨n12, en12, h⟩ := ok_n h
    refine lv_iinc (v := n12) (lv' := [(6, .int n12), (5, .int n11), (0, .ref (ad 0)), (1, .long x1), (3, .int x3), (4, .int x4)]) hx hb d_Mo_result_69 hl (k := 5) rfl (by rw [en12]; rfl) (by decide) rfl (fun ls hl => ?_)
    refine lv_goto (tgt := 50) hx hb d_Mo_result_72 (by decide) ?_
    exact hi50 (x1, x3, x4, n11, n12, q) h H locs ls hw (lv_sub hl [2, 3, 4, 5, 1, 0] rfl)
theorem w_Mo_result_50 {p : Program} {l : Launch} {e : Env} {s : State} {m : MethodId} {args : Array Value} {below : List Frame} {meth : Method} {c : Code} {D : va_G} {A : Nat → Prop} {ad : Nat → Nat} {ca : Nat → ClassId} (o : z_Sg) (C0 : z_cx z_RMo b_Mo_result 7 none D (z_Mt ca) A p s m args meth c) (q : z_Sg) (x1 : Int64) (x3 : Int32) (x4 : Int32) (x5 : Int32) (x6 : Int32) (h : k_Mo_result_50 x1 x3 x4 x5 x6 q = some o) : ∀ (H : Heap) (locs : List Loc) (ls : Array Slot), z_wd D (z_M ad ca q) A s H locs → lv_has ls 7 [(0, .ref (ad 0)), (1, .long x1), (3, .int x3), (4, .int x4), (5, .int x5), (6, .int x6)] → W p l e (z_rm 1 22) s m args below meth c H locs 0 0 (z_qv below D (z_Mt ca) (z_M ad ca o) A s args) (F0 m 50 ls []) := by
  have key : ∀ (n : Nat) (a : Int64 × Int32 × Int32 × Int32 × Int32 × z_Sg), z_lo (fun ih50 a => kb_Mo_result_50 ih50 a.1 a.2.1 a.2.2.1 a.2.2.2.1 a.2.2.2.2.1 a.2.2.2.2.2) n a = some o → ∀ (H : Heap) (locs : List Loc) (ls : Array Slot), z_wd D (z_M ad ca a.2.2.2.2.2) A s H locs → lv_has ls 7 [(0, .ref (ad 0)), (1, .long a.1), (3, .int a.2.1), (4, .int a.2.2.1), (5, .int a.2.2.2.1), (6, .int a.2.2.2.2.1)] → W p l e (z_rm 1 22) s m args below meth c H locs 0 0 (z_qv below D (z_Mt ca) (z_M ad ca o) A s args) (F0 m 50 ls []) := by
    intro n
    induction n with
    | zero => intro a h; cases h
    | succ n ih => exact fun a h => wb_Mo_result_50 o C0 a.2.2.2.2.2 (z_lo (fun ih50 a => kb_Mo_result_50 ih50 a.1 a.2.1 a.2.2.1 a.2.2.2.1 a.2.2.2.2.1 a.2.2.2.2.2) n) ih a.1 a.2.1 a.2.2.1 a.2.2.2.1 a.2.2.2.2.1 h
  exact key 2000 (x1, x3, x4, x5, x6, q) h
set_option maxHeartbeats 4000000 in
set_option maxRecDepth 100000 in
theorem w_Mo_result_39 {p : Program} {l : Launch} {e : Env} {s : State} {m : MethodId} {args : Array Value} {below : List Frame} {meth : Method} {c : Code} {D : va_G} {A : Nat → Prop} {ad : Nat → Nat} {ca : Nat → ClassId} (o : z_Sg) (C0 : z_cx z_RMo b_Mo_result 7 none D (z_Mt ca) A p s m args meth c) (q : z_Sg) (ih9 : Int64 × Int32 × Int32 × Int32 × Int32 × z_Sg → Option z_Sg) (hi9 : ∀ a : Int64 × Int32 × Int32 × Int32 × Int32 × z_Sg, ih9 a = some o → ∀ (H : Heap) (locs : List Loc) (ls : Array Slot), z_wd D (z_M ad ca a.2.2.2.2.2) A s H locs → lv_has ls 7 [(0, .ref (ad 0)), (1, .long a.1), (3, .int a.2.1), (4, .int a.2.2.1), (5, .int a.2.2.2.1), (6, .int a.2.2.2.2.1)] → W p l e (z_rm 1 22) s m args below meth c H locs 0 0 (z_qv below D (z_Mt ca) (z_M ad ca o) A s args) (F0 m 9 ls [])) (x1 : Int64) (x3 : Int32) (x5 : Int32) (x6 : Int32) (t0 : Int32) (h : k_Mo_result_39 ih9 x1 x3 x5 x6 t0 q = some o) : ∀ (H : Heap) (locs : List Loc) (ls : Array Slot), z_wd D (z_M ad ca q) A s H locs → lv_has ls 7 [(0, .ref (ad 0)), (1, .long x1), (3, .int x3), (5, .int x5), (6, .int x6)] → W p l e (z_rm 1 22) s m args below meth c H locs 0 0 (z_qv below D (z_Mt ca) (z_M ad ca o) A s args) (F0 m 39 ls [.int t0]) := by
  obtain ⟨hx, hb, hr, hlk, hml, hown, hts, hK, hA⟩ := id C0
  intro H locs ls hw hl
  refine lv_istore (lv' := [(4, .int t0), (0, .ref (ad 0)), (1, .long x1), (3, .int x3), (5, .int x5), (6, .int x6)]) hx hb d_Mo_result_39 hl (by decide) rfl (fun ls hl => ?_)
  obtain ⟨n14, en14, h⟩ := ok_n h
  refine lv_iinc (v := n14) (lv' := [(6, .int n14), (4, .int t0), (0, .ref (ad 0)), (1, .long x1), (3, .int x3), (5, .int x5)]) hx hb d_Mo_result_41 hl (k := 5) rfl (by rw [en14]; rfl) (by decide) rfl (fun ls hl => ?_)
  refine lv_goto (tgt := 9) hx hb d_Mo_result_44 (by decide) ?_
  exact hi9 (x1, x3, t0, x5, n14, q) h H locs ls hw (lv_sub hl [2, 3, 4, 1, 5, 0] rfl)
set_option maxHeartbeats 4000000 in
set_option maxRecDepth 100000 in
theorem w_Mo_result_38 {p : Program} {l : Launch} {e : Env} {s : State} {m : MethodId} {args : Array Value} {below : List Frame} {meth : Method} {c : Code} {D : va_G} {A : Nat → Prop} {ad : Nat → Nat} {ca : Nat → ClassId} (o : z_Sg) (C0 : z_cx z_RMo b_Mo_result 7 none D (z_Mt ca) A p s m args meth c) (q : z_Sg) (ih9 : Int64 × Int32 × Int32 × Int32 × Int32 × z_Sg → Option z_Sg) (hi9 : ∀ a : Int64 × Int32 × Int32 × Int32 × Int32 × z_Sg, ih9 a = some o → ∀ (H : Heap) (locs : List Loc) (ls : Array Slot), z_wd D (z_M ad ca a.2.2.2.2.2) A s H locs → lv_has ls 7 [(0, .ref (ad 0)), (1, .long a.1), (3, .int a.2.1), (4, .int a.2.2.1), (5, .int a.2.2.2.1), (6, .int a.2.2.2.2.1)] → W p l e (z_rm 1 22) s m args below meth c H locs 0 0 (z_qv below D (z_Mt ca) (z_M ad ca o) A s args) (F0 m 9 ls [])) (x1 : Int64) (x3 : Int32) (x5 : Int32) (x6 : Int32) (h : k_Mo_result_38 ih9 x1 x3 x5 x6 q = some o) : ∀ (H : Heap) (locs : List Loc) (ls : Array Slot), z_wd D (z_M ad ca q) A s H locs → lv_has ls 7 [(0, .ref (ad 0)), (1, .long x1), (3, .int x3), (5, .int x5), (6, .int x6)] → W p l e (z_rm 1 22) s m args below meth c H locs 0 0 (z_qv below D (z_Mt ca) (z_M ad ca o) A s args) (F0 m 38 ls []) := by
  obtain ⟨hx, hb, hr, hlk, hml, hown, hts, hK, hA⟩ := id C0
  intro H locs ls hw hl
  refine lv_iconst (v := (0 : Int32)) hx hb d_Mo_result_38 (by decide) ?_
  exact w_Mo_result_39 o C0 q ih9 hi9 x1 x3 x5 x6 (0 : Int32) h H locs ls hw (lv_sub hl [0, 1, 2, 3, 4] rfl)
set_option maxHeartbeats 4000000 in
set_option maxRecDepth 100000 in
theorem wb_Mo_result_9 {p : Program} {l : Launch} {e : Env} {s : State} {m : MethodId} {args : Array Value} {below : List Frame} {meth : Method} {c : Code} {D : va_G} {A : Nat → Prop} {ad : Nat → Nat} {ca : Nat → ClassId} (o : z_Sg) (C0 : z_cx z_RMo b_Mo_result 7 none D (z_Mt ca) A p s m args meth c) (q : z_Sg) (ih9 : Int64 × Int32 × Int32 × Int32 × Int32 × z_Sg → Option z_Sg) (hi9 : ∀ a : Int64 × Int32 × Int32 × Int32 × Int32 × z_Sg, ih9 a = some o → ∀ (H : Heap) (locs : List Loc) (ls : Array Slot), z_wd D (z_M ad ca a.2.2.2.2.2) A s H locs → lv_has ls 7 [(0, .ref (ad 0)), (1, .long a.1), (3, .int a.2.1), (4, .int a.2.2.1), (5, .int a.2.2.2.1), (6, .int a.2.2.2.2.1)] → W p l e (z_rm 1 22) s m args below meth c H locs 0 0 (z_qv below D (z_Mt ca) (z_M ad ca o) A s args) (F0 m 9 ls [])) (x1 : Int64) (x3 : Int32) (x4 : Int32) (x5 : Int32) (x6 : Int32) (h : kb_Mo_result_9 ih9 x1 x3 x4 x5 x6 q = some o) : ∀ (H : Heap) (locs : List Loc) (ls : Array Slot), z_wd D (z_M ad ca q) A s H locs → lv_has ls 7 [(0, .ref (ad 0)), (1, .long x1), (3, .int x3), (4, .int x4), (5, .int x5), (6, .int x6)] → W p l e (z_rm 1 22) s m args below meth c H locs 0 0 (z_qv below D (z_Mt ca) (z_M ad ca o) A s args) (F0 m 9 ls []) := by
  obtain ⟨hx, hb, hr, hlk, hml, hown, hts, hK, hA⟩ := id C0
  intro H locs ls hw hl
  refine lv_iload hx hb d_Mo_result_9 (lv_at hl 5 rfl) ?_
  refine lv_bipush (v := (8 : Int32)) hx hb d_Mo_result_11 (by decide) ?_
  refine lv_iload_n hx hb d_Mo_result_13 rfl (lv_at hl 2 rfl) ?_
  refine lv_imul hx hb d_Mo_result_14 ?_
  refine lv_icmp_ge (tgt := 47) hx hb d_Mo_result_15 (by decide) (fun c1 => ?_) (fun c1 => ?_)
  · have h := ok_t h c1
    refine lv_iconst (v := (0 : Int32)) hx hb d_Mo_result_47 (by decide) ?_
    refine lv_istore (lv' := [(6, .int (0 : Int32)), (0, .ref (ad 0)), (1, .long x1), (3, .int x3), (4, .int x4), (5, .int x5)]) hx hb d_Mo_result_48 hl (by decide) rfl (fun ls hl => ?_)
    exact w_Mo_result_50 o C0 q x1 x3 x4 x5 (0 : Int32) h H locs ls hw (lv_sub hl [1, 2, 3, 4, 5, 0] rfl)
  · have h := ok_f h c1
    refine lv_iload hx hb d_Mo_result_18 (lv_at hl 3 rfl) ?_
    refine lv_if_eq (tgt := 38) hx hb d_Mo_result_20 (by decide) (fun c13 => ?_) (fun c13 => ?_)
    · have h := ok_t h c13
      exact w_Mo_result_38 o C0 q ih9 hi9 x1 x3 x5 x6 h H locs ls hw (lv_sub hl [0, 1, 2, 4, 5] rfl)
    · have h := ok_f h c13
      refine lv_lload_n hx hb d_Mo_result_23 rfl (lv_at hl 1 rfl) ?_
      refine lv_iload hx hb d_Mo_result_24 (lv_at hl 5 rfl) ?_
      refine lv_lushr (v := (z_lushr x1 x6)) hx hb d_Mo_result_26 rfl ?_
      refine lv_lconst (v := (1 : Int64)) hx hb d_Mo_result_27 (by decide) ?_
      refine lv_land hx hb d_Mo_result_28 ?_
      refine lv_lconst (v := (0 : Int64)) hx hb d_Mo_result_29 (by decide) ?_
      refine W.lcmp hx hb d_Mo_result_30 ?_
      refine lv_if_ne (tgt := 38) hx hb d_Mo_result_31 (by decide) (fun c15 => ?_) (fun c15 => ?_)
      · have h := ok_f h (fun z => c15 ((lg_cmp_eq _ _).mpr z))
        exact w_Mo_result_38 o C0 q ih9 hi9 x1 x3 x5 x6 h H locs ls hw (lv_sub hl [0, 1, 2, 4, 5] rfl)
      · have h := ok_t h ((lg_cmp_eq _ _).mp c15)
        refine lv_iconst (v := (1 : Int32)) hx hb d_Mo_result_34 (by decide) ?_
        refine lv_goto (tgt := 39) hx hb d_Mo_result_35 (by decide) ?_
        exact w_Mo_result_39 o C0 q ih9 hi9 x1 x3 x5 x6 (1 : Int32) h H locs ls hw (lv_sub hl [0, 1, 2, 4, 5] rfl)
theorem w_Mo_result_9 {p : Program} {l : Launch} {e : Env} {s : State} {m : MethodId} {args : Array Value} {below : List Frame} {meth : Method} {c : Code} {D : va_G} {A : Nat → Prop} {ad : Nat → Nat} {ca : Nat → ClassId} (o : z_Sg) (C0 : z_cx z_RMo b_Mo_result 7 none D (z_Mt ca) A p s m args meth c) (q : z_Sg) (x1 : Int64) (x3 : Int32) (x4 : Int32) (x5 : Int32) (x6 : Int32) (h : k_Mo_result_9 x1 x3 x4 x5 x6 q = some o) : ∀ (H : Heap) (locs : List Loc) (ls : Array Slot), z_wd D (z_M ad ca q) A s H locs → lv_has ls 7 [(0, .ref (ad 0)), (1, .long x1), (3, .int x3), (4, .int x4), (5, .int x5), (6, .int x6)] → W p l e (z_rm 1 22) s m args below meth c H locs 0 0 (z_qv below D (z_Mt ca) (z_M ad ca o) A s args) (F0 m 9 ls []) := by
  have key : ∀ (n : Nat) (a : Int64 × Int32 × Int32 × Int32 × Int32 × z_Sg), z_lo (fun ih9 a => kb_Mo_result_9 ih9 a.1 a.2.1 a.2.2.1 a.2.2.2.1 a.2.2.2.2.1 a.2.2.2.2.2) n a = some o → ∀ (H : Heap) (locs : List Loc) (ls : Array Slot), z_wd D (z_M ad ca a.2.2.2.2.2) A s H locs → lv_has ls 7 [(0, .ref (ad 0)), (1, .long a.1), (3, .int a.2.1), (4, .int a.2.2.1), (5, .int a.2.2.2.1), (6, .int a.2.2.2.2.1)] → W p l e (z_rm 1 22) s m args below meth c H locs 0 0 (z_qv below D (z_Mt ca) (z_M ad ca o) A s args) (F0 m 9 ls []) := by
    intro n
    induction n with
    | zero => intro a h; cases h
    | succ n ih => exact fun a h => wb_Mo_result_9 o C0 a.2.2.2.2.2 (z_lo (fun ih9 a => kb_Mo_result_9 ih9 a.1 a.2.1 a.2.2.1 a.2.2.2.1 a.2.2.2.2.1 a.2.2.2.2.2) n) ih a.1 a.2.1 a.2.2.1 a.2.2.2.1 a.2.2.2.2.1 h
  exact key 2000 (x1, x3, x4, x5, x6, q) h
set_option maxHeartbeats 4000000 in
set_option maxRecDepth 100000 in
theorem c_Mo_result {l : Launch} {D : va_G} {ad : Nat → Nat} {ca : Nat → ClassId} (x1 : Int64) (x3 : Int32) (q : z_Sg) (o : z_Sg) (h : f_Mo_result x1 x3 q = some o) : z_cv l y_Mo_result b_Mo_result 7 none 1 22 D (z_Mt ca) (z_M ad ca q) (z_M ad ca o) [.ref (ad 0), .long x1, .int x3] := by
  refine z_cv_of (own := z_RMo) (by decide) rfl ?_
  intro p e s m below meth c A C0 hw
  obtain ⟨hx, hb, hr, hlk, hml, hown, hts, hK, hA⟩ := id C0
  generalize hH : s.heap = H at hw ⊢
  generalize hlo : ([] : List Loc) = locs at hw ⊢
  refine z_entry (lv := [(0, .ref (ad 0)), (1, .long x1), (3, .int x3)]) (Nat.le_of_ble_eq_true rfl) rfl (fun ls hl => ?_)
  unfold f_Mo_result at h
  refine lv_iconst (v := (1 : Int32)) hx hb d_Mo_result_0 (by decide) ?_
  refine lv_istore (lv' := [(4, .int (1 : Int32)), (0, .ref (ad 0)), (1, .long x1), (3, .int x3)]) hx hb d_Mo_result_1 hl (by decide) rfl (fun ls hl => ?_)
  refine lv_iconst (v := (0 : Int32)) hx hb d_Mo_result_3 (by decide) ?_
  refine lv_istore (lv' := [(5, .int (0 : Int32)), (4, .int (1 : Int32)), (0, .ref (ad 0)), (1, .long x1), (3, .int x3)]) hx hb d_Mo_result_4 hl (by decide) rfl (fun ls hl => ?_)
  refine lv_iconst (v := (0 : Int32)) hx hb d_Mo_result_6 (by decide) ?_
  refine lv_istore (lv' := [(6, .int (0 : Int32)), (5, .int (0 : Int32)), (4, .int (1 : Int32)), (0, .ref (ad 0)), (1, .long x1), (3, .int x3)]) hx hb d_Mo_result_7 hl (by decide) rfl (fun ls hl => ?_)
  exact w_Mo_result_9 o C0 q x1 x3 (1 : Int32) (0 : Int32) (0 : Int32) h H locs ls hw (lv_sub hl [3, 4, 5, 2, 1, 0] rfl)
def k_Mo_add_184 (x7 : Int32) (x8 : Int64) (t1 : Int32) (t2 : Int32) (q : z_Sg) : Option (Int64 × z_Sg) :=
  if z_bad t1 7 then none else (z_nm (z_sN q 1 t1.toNatClampNeg (vp_nar .boolean t2)) (fun q8 => (f_Mo_result x8 x7 q8).bind (fun r9 => some (x8, r9))))
def k_Mo_add_165 (x7 : Int32) (x8 : Int64) (x10 : Int32) (x11 : Int32) (t1 : Int32) (t2 : Int32) (q : z_Sg) : Option (Int64 × z_Sg) :=
  if z_bad t1 7 then none else (z_nm (z_sN q 1 t1.toNatClampNeg (vp_nar .boolean t2)) (fun q5 => if x10 = x11 then (k_Mo_add_184 x7 x8 (6 : Int32) (0 : Int32) q5) else (k_Mo_add_184 x7 x8 (6 : Int32) (1 : Int32) q5)))
def k_Mo_add_143 (ih21 : Int64 × Int64 × Int32 × Int32 × Int64 × Int32 × Int32 × Int32 × z_Sg → Option (Int64 × z_Sg)) (x1 : Int64) (x3 : Int64) (x6 : Int32) (x7 : Int32) (x8 : Int64) (x10 : Int32) (x11 : Int32) (x12 : Int32) (q : z_Sg) : Option (Int64 × z_Sg) :=
  z_nm (x12 + (1 : Int32)) (fun n16 => ih21 (x1, x3, x6, x7, x8, x10, x11, n16, q))
def k_Mo_add_142 (ih21 : Int64 × Int64 × Int32 × Int32 × Int64 × Int32 × Int32 × Int32 × z_Sg → Option (Int64 × z_Sg)) (x1 : Int64) (x3 : Int64) (x6 : Int32) (x7 : Int32) (x8 : Int64) (x10 : Int32) (x11 : Int32) (x12 : Int32) (t1 : Int32) (t2 : Int32) (q : z_Sg) : Option (Int64 × z_Sg) :=
  if z_bad t1 7 then none else (z_nm (z_sN q 1 t1.toNatClampNeg (vp_nar .boolean t2)) (fun q19 => k_Mo_add_143 ih21 x1 x3 x6 x7 x8 x10 x11 x12 q19))
def k_Mo_add_120 (ih21 : Int64 × Int64 × Int32 × Int32 × Int64 × Int32 × Int32 × Int32 × z_Sg → Option (Int64 × z_Sg)) (x1 : Int64) (x3 : Int64) (x6 : Int32) (x7 : Int32) (x8 : Int64) (x10 : Int32) (x11 : Int32) (x12 : Int32) (q : z_Sg) : Option (Int64 × z_Sg) :=
  if x12 = (3 : Int32) then (if x10 = (1 : Int32) then (k_Mo_add_142 ih21 x1 x3 x6 x7 x8 x10 x11 x12 (2 : Int32) (1 : Int32) q) else (k_Mo_add_142 ih21 x1 x3 x6 x7 x8 x10 x11 x12 (2 : Int32) (0 : Int32) q)) else (k_Mo_add_143 ih21 x1 x3 x6 x7 x8 x10 x11 x12 q)
def k_Mo_add_101 (ih21 : Int64 × Int64 × Int32 × Int32 × Int64 × Int32 × Int32 × Int32 × z_Sg → Option (Int64 × z_Sg)) (x1 : Int64) (x3 : Int64) (x6 : Int32) (x7 : Int32) (x8 : Int64) (x11 : Int32) (x12 : Int32) (x15 : Int32) (t0 : Int32) (q : z_Sg) : Option (Int64 × z_Sg) :=
  if (x15 &&& (1 : Int32)) = (1 : Int32) then (z_nm ((x8 ||| (z_lshl (1 : Int64) x12))) (fun n20 => k_Mo_add_120 ih21 x1 x3 x6 x7 n20 t0 x11 x12 q)) else (k_Mo_add_120 ih21 x1 x3 x6 x7 x8 t0 x11 x12 q)
def k_Mo_add_77 (ih21 : Int64 × Int64 × Int32 × Int32 × Int64 × Int32 × Int32 × Int32 × z_Sg → Option (Int64 × z_Sg)) (x1 : Int64) (x3 : Int64) (x6 : Int32) (x7 : Int32) (x8 : Int64) (x11 : Int32) (x12 : Int32) (t0 : Int32) (q : z_Sg) : Option (Int64 × z_Sg) :=
  if x6 = 0 then (k_Mo_add_101 ih21 x1 x3 x6 x7 x8 x11 x12 t0 (t0 / (2 : Int32)) q) else (if 0 ≤ t0 then (k_Mo_add_101 ih21 x1 x3 x6 x7 x8 x11 x12 t0 (0 : Int32) q) else (k_Mo_add_101 ih21 x1 x3 x6 x7 x8 x11 x12 t0 (1 : Int32) q))
def kb_Mo_add_21 (ih21 : Int64 × Int64 × Int32 × Int32 × Int64 × Int32 × Int32 × Int32 × z_Sg → Option (Int64 × z_Sg)) (x1 : Int64) (x3 : Int64) (x6 : Int32) (x7 : Int32) (x8 : Int64) (x10 : Int32) (x11 : Int32) (x12 : Int32) (q : z_Sg) : Option (Int64 × z_Sg) :=
  if ((8 : Int32) * x7) ≤ x12 then (if x10 = (1 : Int32) then (k_Mo_add_165 x7 x8 x10 x11 (0 : Int32) (1 : Int32) q) else (k_Mo_add_165 x7 x8 x10 x11 (0 : Int32) (0 : Int32) q)) else (z_nm ((((z_lushr x1 x12) &&& (1 : Int64)).toInt32)) (fun n10 => z_nm ((((z_lushr x3 x12) &&& (1 : Int64)).toInt32)) (fun n11 => if x6 = 0 then (k_Mo_add_77 ih21 x1 x3 x6 x7 x8 x10 x12 ((n10 + n11) + x10) q) else (k_Mo_add_77 ih21 x1 x3 x6 x7 x8 x10 x12 ((n10 - n11) - x10) q))))
def k_Mo_add_21 (x1 : Int64) (x3 : Int64) (x6 : Int32) (x7 : Int32) (x8 : Int64) (x10 : Int32) (x11 : Int32) (x12 : Int32) (q : z_Sg) : Option (Int64 × z_Sg) := z_lo (fun ih21 a => kb_Mo_add_21 ih21 a.1 a.2.1 a.2.2.1 a.2.2.2.1 a.2.2.2.2.1 a.2.2.2.2.2.1 a.2.2.2.2.2.2.1 a.2.2.2.2.2.2.2.1 a.2.2.2.2.2.2.2.2) 2000 (x1, x3, x6, x7, x8, x10, x11, x12, q)
def k_Mo_add_13 (x1 : Int64) (x3 : Int64) (x6 : Int32) (x7 : Int32) (x8 : Int64) (t0 : Int32) (q : z_Sg) : Option (Int64 × z_Sg) :=
  k_Mo_add_21 x1 x3 x6 x7 x8 t0 (0 : Int32) (0 : Int32) q
def f_Mo_add (x1 : Int64) (x3 : Int64) (x5 : Int32) (x6 : Int32) (x7 : Int32) (q : z_Sg) : Option (Int64 × z_Sg) :=
  if x5 = 0 then (k_Mo_add_13 x1 x3 x6 x7 (0 : Int64) (0 : Int32) q) else (k_Mo_add_13 x1 x3 x6 x7 (0 : Int64) (1 : Int32) q)
set_option maxHeartbeats 4000000 in
set_option maxRecDepth 100000 in
theorem w_Mo_add_184 {p : Program} {l : Launch} {e : Env} {s : State} {m : MethodId} {args : Array Value} {below : List Frame} {meth : Method} {c : Code} {D : va_G} {A : Nat → Prop} {ad : Nat → Nat} {ca : Nat → ClassId} (o : (Int64 × z_Sg)) (C0 : z_cx z_RMo b_Mo_add 16 (some .long) D (z_Mt ca) A p s m args meth c) (q : z_Sg) (x7 : Int32) (x8 : Int64) (t1 : Int32) (t2 : Int32) (h : k_Mo_add_184 x7 x8 t1 t2 q = some o) : ∀ (H : Heap) (locs : List Loc) (ls : Array Slot), z_wd D (z_M ad ca q) A s H locs → lv_has ls 16 [(0, .ref (ad 0)), (7, .int x7), (8, .long x8)] → W p l e (z_rm 2 48) s m args below meth c H locs 0 0 (z_ql below D (z_Mt ca) (z_M ad ca o.2) A s args o.1) (F0 m 184 ls [.int t2, .int t1, .ref (ad 4)]) := by
  obtain ⟨hx, hb, hr, hlk, hml, hown, hts, hK, hA⟩ := id C0
  intro H locs ls hw hl
  obtain ⟨b7, h⟩ := ok_g h
  refine asM_4 C0 hw b7 d_Mo_add_184 (fun H locs hw => ?_)
  obtain ⟨q8, eq8, h⟩ := ok_n h
  rw [← eq8] at hw
  refine lv_aload_n hx hb d_Mo_add_185 rfl (lv_at hl 0 rfl) ?_
  refine lv_lload hx hb d_Mo_add_186 (lv_at hl 2 rfl) ?_
  refine lv_iload hx hb d_Mo_add_188 (lv_at hl 1 rfl) ?_
  obtain ⟨r9, er9, h⟩ := ok_b h
  refine z_vv (rest := []) C0 hw (c_Mo_result x8 x7 q8 r9 er9) mw_Mo_result ml_Mo_216 0 rfl ⟨Nat.le_of_ble_eq_true rfl, Nat.le_of_ble_eq_true rfl⟩ ⟨Nat.le_refl 0, Nat.le_refl 0⟩ rfl hl.1 rfl (Nat.le_of_ble_eq_true rfl) d_Mo_add_190 (fun H locs hw => ?_)
  refine lv_lload hx hb d_Mo_add_193 (lv_at hl 2 rfl) ?_
  have ho := Option.some.inj h
  subst ho
  exact z_rtl C0 hw d_Mo_add_195
set_option maxHeartbeats 4000000 in
set_option maxRecDepth 100000 in
theorem w_Mo_add_165 {p : Program} {l : Launch} {e : Env} {s : State} {m : MethodId} {args : Array Value} {below : List Frame} {meth : Method} {c : Code} {D : va_G} {A : Nat → Prop} {ad : Nat → Nat} {ca : Nat → ClassId} (o : (Int64 × z_Sg)) (C0 : z_cx z_RMo b_Mo_add 16 (some .long) D (z_Mt ca) A p s m args meth c) (q : z_Sg) (x7 : Int32) (x8 : Int64) (x10 : Int32) (x11 : Int32) (t1 : Int32) (t2 : Int32) (h : k_Mo_add_165 x7 x8 x10 x11 t1 t2 q = some o) : ∀ (H : Heap) (locs : List Loc) (ls : Array Slot), z_wd D (z_M ad ca q) A s H locs → lv_has ls 16 [(0, .ref (ad 0)), (7, .int x7), (8, .long x8), (10, .int x10), (11, .int x11)] → W p l e (z_rm 2 48) s m args below meth c H locs 0 0 (z_ql below D (z_Mt ca) (z_M ad ca o.2) A s args o.1) (F0 m 165 ls [.int t2, .int t1, .ref (ad 4)]) := by
  obtain ⟨hx, hb, hr, hlk, hml, hown, hts, hK, hA⟩ := id C0
  intro H locs ls hw hl
  obtain ⟨b4, h⟩ := ok_g h
  refine asM_4 C0 hw b4 d_Mo_add_165 (fun H locs hw => ?_)
  obtain ⟨q5, eq5, h⟩ := ok_n h
  rw [← eq5] at hw
  refine lv_aload_n hx hb d_Mo_add_166 rfl (lv_at hl 0 rfl) ?_
  refine gfM_0_flag C0 hw fl_Mo_21 d_Mo_add_167 ?_
  refine lv_bipush (v := (6 : Int32)) hx hb d_Mo_add_170 (by decide) ?_
  refine lv_iload hx hb d_Mo_add_172 (lv_at hl 3 rfl) ?_
  refine lv_iload hx hb d_Mo_add_174 (lv_at hl 4 rfl) ?_
  refine lv_icmp_eq (tgt := 183) hx hb d_Mo_add_176 (by decide) (fun c6 => ?_) (fun c6 => ?_)
  · have h := ok_t h c6
    refine lv_iconst (v := (0 : Int32)) hx hb d_Mo_add_183 (by decide) ?_
    exact w_Mo_add_184 o C0 q5 x7 x8 (6 : Int32) (0 : Int32) h H locs ls hw (lv_sub hl [0, 1, 2] rfl)
  · have h := ok_f h c6
    refine lv_iconst (v := (1 : Int32)) hx hb d_Mo_add_179 (by decide) ?_
    refine lv_goto (tgt := 184) hx hb d_Mo_add_180 (by decide) ?_
    exact w_Mo_add_184 o C0 q5 x7 x8 (6 : Int32) (1 : Int32) h H locs ls hw (lv_sub hl [0, 1, 2] rfl)
set_option maxHeartbeats 4000000 in
set_option maxRecDepth 100000 in
theorem w_Mo_add_143 {p : Program} {l : Launch} {e : Env} {s : State} {m : MethodId} {args : Array Value} {below : List Frame} {meth : Method} {c : Code} {D : va_G} {A : Nat → Prop} {ad : Nat → Nat} {ca : Nat → ClassId} (o : (Int64 × z_Sg)) (C0 : z_cx z_RMo b_Mo_add 16 (some .long) D (z_Mt ca) A p s m args meth c) (q : z_Sg) (ih21 : Int64 × Int64 × Int32 × Int32 × Int64 × Int32 × Int32 × Int32 × z_Sg → Option (Int64 × z_Sg)) (hi21 : ∀ a : Int64 × Int64 × Int32 × Int32 × Int64 × Int32 × Int32 × Int32 × z_Sg, ih21 a = some o → ∀ (H : Heap) (locs : List Loc) (ls : Array Slot), z_wd D (z_M ad ca a.2.2.2.2.2.2.2.2) A s H locs → lv_has ls 16 [(0, .ref (ad 0)), (1, .long a.1), (3, .long a.2.1), (6, .int a.2.2.1), (7, .int a.2.2.2.1), (8, .long a.2.2.2.2.1), (10, .int a.2.2.2.2.2.1), (11, .int a.2.2.2.2.2.2.1), (12, .int a.2.2.2.2.2.2.2.1)] → W p l e (z_rm 2 48) s m args below meth c H locs 0 0 (z_ql below D (z_Mt ca) (z_M ad ca o.2) A s args o.1) (F0 m 21 ls [])) (x1 : Int64) (x3 : Int64) (x6 : Int32) (x7 : Int32) (x8 : Int64) (x10 : Int32) (x11 : Int32) (x12 : Int32) (h : k_Mo_add_143 ih21 x1 x3 x6 x7 x8 x10 x11 x12 q = some o) : ∀ (H : Heap) (locs : List Loc) (ls : Array Slot), z_wd D (z_M ad ca q) A s H locs → lv_has ls 16 [(0, .ref (ad 0)), (1, .long x1), (3, .long x3), (6, .int x6), (7, .int x7), (8, .long x8), (10, .int x10), (11, .int x11), (12, .int x12)] → W p l e (z_rm 2 48) s m args below meth c H locs 0 0 (z_ql below D (z_Mt ca) (z_M ad ca o.2) A s args o.1) (F0 m 143 ls []) := by
  obtain ⟨hx, hb, hr, hlk, hml, hown, hts, hK, hA⟩ := id C0
  intro H locs ls hw hl
  obtain ⟨n16, en16, h⟩ := ok_n h
  refine lv_iinc (v := n16) (lv' := [(12, .int n16), (0, .ref (ad 0)), (1, .long x1), (3, .long x3), (6, .int x6), (7, .int x7), (8, .long x8), (10, .int x10), (11, .int x11)]) hx hb d_Mo_add_143 hl (k := 8) rfl (by rw [en16]; rfl) (by decide) rfl (fun ls hl => ?_)
  refine lv_goto (tgt := 21) hx hb d_Mo_add_146 (by decide) ?_
  exact hi21 (x1, x3, x6, x7, x8, x10, x11, n16, q) h H locs ls hw (lv_sub hl [1, 2, 3, 4, 5, 6, 7, 8, 0] rfl)
set_option maxHeartbeats 4000000 in
set_option maxRecDepth 100000 in
theorem w_Mo_add_142 {p : Program} {l : Launch} {e : Env} {s : State} {m : MethodId} {args : Array Value} {below : List Frame} {meth : Method} {c : Code} {D : va_G} {A : Nat → Prop} {ad : Nat → Nat} {ca : Nat → ClassId} (o : (Int64 × z_Sg)) (C0 : z_cx z_RMo b_Mo_add 16 (some .long) D (z_Mt ca) A p s m args meth c) (q : z_Sg) (ih21 : Int64 × Int64 × Int32 × Int32 × Int64 × Int32 × Int32 × Int32 × z_Sg → Option (Int64 × z_Sg)) (hi21 : ∀ a : Int64 × Int64 × Int32 × Int32 × Int64 × Int32 × Int32 × Int32 × z_Sg, ih21 a = some o → ∀ (H : Heap) (locs : List Loc) (ls : Array Slot), z_wd D (z_M ad ca a.2.2.2.2.2.2.2.2) A s H locs → lv_has ls 16 [(0, .ref (ad 0)), (1, .long a.1), (3, .long a.2.1), (6, .int a.2.2.1), (7, .int a.2.2.2.1), (8, .long a.2.2.2.2.1), (10, .int a.2.2.2.2.2.1), (11, .int a.2.2.2.2.2.2.1), (12, .int a.2.2.2.2.2.2.2.1)] → W p l e (z_rm 2 48) s m args below meth c H locs 0 0 (z_ql below D (z_Mt ca) (z_M ad ca o.2) A s args o.1) (F0 m 21 ls [])) (x1 : Int64) (x3 : Int64) (x6 : Int32) (x7 : Int32) (x8 : Int64) (x10 : Int32) (x11 : Int32) (x12 : Int32) (t1 : Int32) (t2 : Int32) (h : k_Mo_add_142 ih21 x1 x3 x6 x7 x8 x10 x11 x12 t1 t2 q = some o) : ∀ (H : Heap) (locs : List Loc) (ls : Array Slot), z_wd D (z_M ad ca q) A s H locs → lv_has ls 16 [(0, .ref (ad 0)), (1, .long x1), (3, .long x3), (6, .int x6), (7, .int x7), (8, .long x8), (10, .int x10), (11, .int x11), (12, .int x12)] → W p l e (z_rm 2 48) s m args below meth c H locs 0 0 (z_ql below D (z_Mt ca) (z_M ad ca o.2) A s args o.1) (F0 m 142 ls [.int t2, .int t1, .ref (ad 4)]) := by
  obtain ⟨hx, hb, hr, hlk, hml, hown, hts, hK, hA⟩ := id C0
  intro H locs ls hw hl
  obtain ⟨b18, h⟩ := ok_g h
  refine asM_4 C0 hw b18 d_Mo_add_142 (fun H locs hw => ?_)
  obtain ⟨q19, eq19, h⟩ := ok_n h
  rw [← eq19] at hw
  exact w_Mo_add_143 o C0 q19 ih21 hi21 x1 x3 x6 x7 x8 x10 x11 x12 h H locs ls hw (lv_sub hl [0, 1, 2, 3, 4, 5, 6, 7, 8] rfl)
set_option maxHeartbeats 4000000 in
set_option maxRecDepth 100000 in
theorem w_Mo_add_120 {p : Program} {l : Launch} {e : Env} {s : State} {m : MethodId} {args : Array Value} {below : List Frame} {meth : Method} {c : Code} {D : va_G} {A : Nat → Prop} {ad : Nat → Nat} {ca : Nat → ClassId} (o : (Int64 × z_Sg)) (C0 : z_cx z_RMo b_Mo_add 16 (some .long) D (z_Mt ca) A p s m args meth c) (q : z_Sg) (ih21 : Int64 × Int64 × Int32 × Int32 × Int64 × Int32 × Int32 × Int32 × z_Sg → Option (Int64 × z_Sg)) (hi21 : ∀ a : Int64 × Int64 × Int32 × Int32 × Int64 × Int32 × Int32 × Int32 × z_Sg, ih21 a = some o → ∀ (H : Heap) (locs : List Loc) (ls : Array Slot), z_wd D (z_M ad ca a.2.2.2.2.2.2.2.2) A s H locs → lv_has ls 16 [(0, .ref (ad 0)), (1, .long a.1), (3, .long a.2.1), (6, .int a.2.2.1), (7, .int a.2.2.2.1), (8, .long a.2.2.2.2.1), (10, .int a.2.2.2.2.2.1), (11, .int a.2.2.2.2.2.2.1), (12, .int a.2.2.2.2.2.2.2.1)] → W p l e (z_rm 2 48) s m args below meth c H locs 0 0 (z_ql below D (z_Mt ca) (z_M ad ca o.2) A s args o.1) (F0 m 21 ls [])) (x1 : Int64) (x3 : Int64) (x6 : Int32) (x7 : Int32) (x8 : Int64) (x10 : Int32) (x11 : Int32) (x12 : Int32) (h : k_Mo_add_120 ih21 x1 x3 x6 x7 x8 x10 x11 x12 q = some o) : ∀ (H : Heap) (locs : List Loc) (ls : Array Slot), z_wd D (z_M ad ca q) A s H locs → lv_has ls 16 [(0, .ref (ad 0)), (1, .long x1), (3, .long x3), (6, .int x6), (7, .int x7), (8, .long x8), (10, .int x10), (11, .int x11), (12, .int x12)] → W p l e (z_rm 2 48) s m args below meth c H locs 0 0 (z_ql below D (z_Mt ca) (z_M ad ca o.2) A s args o.1) (F0 m 120 ls []) := by
  obtain ⟨hx, hb, hr, hlk, hml, hown, hts, hK, hA⟩ := id C0
  intro H locs ls hw hl
  refine lv_iload hx hb d_Mo_add_120 (lv_at hl 8 rfl) ?_
  refine lv_iconst (v := (3 : Int32)) hx hb d_Mo_add_122 (by decide) ?_
  refine lv_icmp_ne (tgt := 143) hx hb d_Mo_add_123 (by decide) (fun c15 => ?_) (fun c15 => ?_)
  · have h := ok_f h c15
    exact w_Mo_add_143 o C0 q ih21 hi21 x1 x3 x6 x7 x8 x10 x11 x12 h H locs ls hw (lv_sub hl [0, 1, 2, 3, 4, 5, 6, 7, 8] rfl)
  · have h := ok_t h c15
    refine lv_aload_n hx hb d_Mo_add_126 rfl (lv_at hl 0 rfl) ?_
    refine gfM_0_flag C0 hw fl_Mo_21 d_Mo_add_127 ?_
    refine lv_iconst (v := (2 : Int32)) hx hb d_Mo_add_130 (by decide) ?_
    refine lv_iload hx hb d_Mo_add_131 (lv_at hl 6 rfl) ?_
    refine lv_iconst (v := (1 : Int32)) hx hb d_Mo_add_133 (by decide) ?_
    refine lv_icmp_ne (tgt := 141) hx hb d_Mo_add_134 (by decide) (fun c17 => ?_) (fun c17 => ?_)
    · have h := ok_f h c17
      refine lv_iconst (v := (0 : Int32)) hx hb d_Mo_add_141 (by decide) ?_
      exact w_Mo_add_142 o C0 q ih21 hi21 x1 x3 x6 x7 x8 x10 x11 x12 (2 : Int32) (0 : Int32) h H locs ls hw (lv_sub hl [0, 1, 2, 3, 4, 5, 6, 7, 8] rfl)
    · have h := ok_t h c17
      refine lv_iconst (v := (1 : Int32)) hx hb d_Mo_add_137 (by decide) ?_
      refine lv_goto (tgt := 142) hx hb d_Mo_add_138 (by decide) ?_
      exact w_Mo_add_142 o C0 q ih21 hi21 x1 x3 x6 x7 x8 x10 x11 x12 (2 : Int32) (1 : Int32) h H locs ls hw (lv_sub hl [0, 1, 2, 3, 4, 5, 6, 7, 8] rfl)
set_option maxHeartbeats 4000000 in
set_option maxRecDepth 100000 in
theorem w_Mo_add_101 {p : Program} {l : Launch} {e : Env} {s : State} {m : MethodId} {args : Array Value} {below : List Frame} {meth : Method} {c : Code} {D : va_G} {A : Nat → Prop} {ad : Nat → Nat} {ca : Nat → ClassId} (o : (Int64 × z_Sg)) (C0 : z_cx z_RMo b_Mo_add 16 (some .long) D (z_Mt ca) A p s m args meth c) (q : z_Sg) (ih21 : Int64 × Int64 × Int32 × Int32 × Int64 × Int32 × Int32 × Int32 × z_Sg → Option (Int64 × z_Sg)) (hi21 : ∀ a : Int64 × Int64 × Int32 × Int32 × Int64 × Int32 × Int32 × Int32 × z_Sg, ih21 a = some o → ∀ (H : Heap) (locs : List Loc) (ls : Array Slot), z_wd D (z_M ad ca a.2.2.2.2.2.2.2.2) A s H locs → lv_has ls 16 [(0, .ref (ad 0)), (1, .long a.1), (3, .long a.2.1), (6, .int a.2.2.1), (7, .int a.2.2.2.1), (8, .long a.2.2.2.2.1), (10, .int a.2.2.2.2.2.1), (11, .int a.2.2.2.2.2.2.1), (12, .int a.2.2.2.2.2.2.2.1)] → W p l e (z_rm 2 48) s m args below meth c H locs 0 0 (z_ql below D (z_Mt ca) (z_M ad ca o.2) A s args o.1) (F0 m 21 ls [])) (x1 : Int64) (x3 : Int64) (x6 : Int32) (x7 : Int32) (x8 : Int64) (x11 : Int32) (x12 : Int32) (x15 : Int32) (t0 : Int32) (h : k_Mo_add_101 ih21 x1 x3 x6 x7 x8 x11 x12 x15 t0 q = some o) : ∀ (H : Heap) (locs : List Loc) (ls : Array Slot), z_wd D (z_M ad ca q) A s H locs → lv_has ls 16 [(0, .ref (ad 0)), (1, .long x1), (3, .long x3), (6, .int x6), (7, .int x7), (8, .long x8), (11, .int x11), (12, .int x12), (15, .int x15)] → W p l e (z_rm 2 48) s m args below meth c H locs 0 0 (z_ql below D (z_Mt ca) (z_M ad ca o.2) A s args o.1) (F0 m 101 ls [.int t0]) := by
  obtain ⟨hx, hb, hr, hlk, hml, hown, hts, hK, hA⟩ := id C0
  intro H locs ls hw hl
  refine lv_istore (lv' := [(10, .int t0), (0, .ref (ad 0)), (1, .long x1), (3, .long x3), (6, .int x6), (7, .int x7), (8, .long x8), (11, .int x11), (12, .int x12), (15, .int x15)]) hx hb d_Mo_add_101 hl (by decide) rfl (fun ls hl => ?_)
  refine lv_iload hx hb d_Mo_add_103 (lv_at hl 9 rfl) ?_
  refine lv_iconst (v := (1 : Int32)) hx hb d_Mo_add_105 (by decide) ?_
  refine lv_iand hx hb d_Mo_add_106 ?_
  refine lv_iconst (v := (1 : Int32)) hx hb d_Mo_add_107 (by decide) ?_
  refine lv_icmp_ne (tgt := 120) hx hb d_Mo_add_108 (by decide) (fun c14 => ?_) (fun c14 => ?_)
  · have h := ok_f h c14
    exact w_Mo_add_120 o C0 q ih21 hi21 x1 x3 x6 x7 x8 t0 x11 x12 h H locs ls hw (lv_sub hl [1, 2, 3, 4, 5, 6, 0, 7, 8] rfl)
  · have h := ok_t h c14
    refine lv_lload hx hb d_Mo_add_111 (lv_at hl 6 rfl) ?_
    refine lv_lconst (v := (1 : Int64)) hx hb d_Mo_add_113 (by decide) ?_
    refine lv_iload hx hb d_Mo_add_114 (lv_at hl 8 rfl) ?_
    refine lv_lshl (v := (z_lshl (1 : Int64) x12)) hx hb d_Mo_add_116 rfl ?_
    refine lv_lor hx hb d_Mo_add_117 ?_
    obtain ⟨n20, en20, h⟩ := ok_n h
    refine z_tl en20 ?_
    refine lv_lstore (lv' := [(8, .long n20), (10, .int t0), (0, .ref (ad 0)), (1, .long x1), (3, .long x3), (6, .int x6), (7, .int x7), (11, .int x11), (12, .int x12), (15, .int x15)]) hx hb d_Mo_add_118 hl (by decide) rfl (fun ls hl => ?_)
    exact w_Mo_add_120 o C0 q ih21 hi21 x1 x3 x6 x7 n20 t0 x11 x12 h H locs ls hw (lv_sub hl [2, 3, 4, 5, 6, 0, 1, 7, 8] rfl)
set_option maxHeartbeats 4000000 in
set_option maxRecDepth 100000 in
theorem w_Mo_add_77 {p : Program} {l : Launch} {e : Env} {s : State} {m : MethodId} {args : Array Value} {below : List Frame} {meth : Method} {c : Code} {D : va_G} {A : Nat → Prop} {ad : Nat → Nat} {ca : Nat → ClassId} (o : (Int64 × z_Sg)) (C0 : z_cx z_RMo b_Mo_add 16 (some .long) D (z_Mt ca) A p s m args meth c) (q : z_Sg) (ih21 : Int64 × Int64 × Int32 × Int32 × Int64 × Int32 × Int32 × Int32 × z_Sg → Option (Int64 × z_Sg)) (hi21 : ∀ a : Int64 × Int64 × Int32 × Int32 × Int64 × Int32 × Int32 × Int32 × z_Sg, ih21 a = some o → ∀ (H : Heap) (locs : List Loc) (ls : Array Slot), z_wd D (z_M ad ca a.2.2.2.2.2.2.2.2) A s H locs → lv_has ls 16 [(0, .ref (ad 0)), (1, .long a.1), (3, .long a.2.1), (6, .int a.2.2.1), (7, .int a.2.2.2.1), (8, .long a.2.2.2.2.1), (10, .int a.2.2.2.2.2.1), (11, .int a.2.2.2.2.2.2.1), (12, .int a.2.2.2.2.2.2.2.1)] → W p l e (z_rm 2 48) s m args below meth c H locs 0 0 (z_ql below D (z_Mt ca) (z_M ad ca o.2) A s args o.1) (F0 m 21 ls [])) (x1 : Int64) (x3 : Int64) (x6 : Int32) (x7 : Int32) (x8 : Int64) (x11 : Int32) (x12 : Int32) (t0 : Int32) (h : k_Mo_add_77 ih21 x1 x3 x6 x7 x8 x11 x12 t0 q = some o) : ∀ (H : Heap) (locs : List Loc) (ls : Array Slot), z_wd D (z_M ad ca q) A s H locs → lv_has ls 16 [(0, .ref (ad 0)), (1, .long x1), (3, .long x3), (6, .int x6), (7, .int x7), (8, .long x8), (11, .int x11), (12, .int x12)] → W p l e (z_rm 2 48) s m args below meth c H locs 0 0 (z_ql below D (z_Mt ca) (z_M ad ca o.2) A s args o.1) (F0 m 77 ls [.int t0]) := by
  obtain ⟨hx, hb, hr, hlk, hml, hown, hts, hK, hA⟩ := id C0
  intro H locs ls hw hl
  refine lv_istore (lv' := [(15, .int t0), (0, .ref (ad 0)), (1, .long x1), (3, .long x3), (6, .int x6), (7, .int x7), (8, .long x8), (11, .int x11), (12, .int x12)]) hx hb d_Mo_add_77 hl (by decide) rfl (fun ls hl => ?_)
  refine lv_iload hx hb d_Mo_add_79 (lv_at hl 4 rfl) ?_
  refine lv_if_eq (tgt := 97) hx hb d_Mo_add_81 (by decide) (fun c13 => ?_) (fun c13 => ?_)
  · have h := ok_t h c13
    refine lv_iload hx hb d_Mo_add_97 (lv_at hl 0 rfl) ?_
    refine lv_iconst (v := (2 : Int32)) hx hb d_Mo_add_99 (by decide) ?_
    refine lv_idiv hx hb d_Mo_add_100 (by decide) ?_
    exact w_Mo_add_101 o C0 q ih21 hi21 x1 x3 x6 x7 x8 x11 x12 t0 (t0 / (2 : Int32)) h H locs ls hw (lv_sub hl [1, 2, 3, 4, 5, 6, 7, 8, 0] rfl)
  · have h := ok_f h c13
    refine lv_iload hx hb d_Mo_add_84 (lv_at hl 0 rfl) ?_
    refine lv_if_ge (tgt := 93) hx hb d_Mo_add_86 (by decide) (fun c21 => ?_) (fun c21 => ?_)
    · have h := ok_t h c21
      refine lv_iconst (v := (0 : Int32)) hx hb d_Mo_add_93 (by decide) ?_
      refine lv_goto (tgt := 101) hx hb d_Mo_add_94 (by decide) ?_
      exact w_Mo_add_101 o C0 q ih21 hi21 x1 x3 x6 x7 x8 x11 x12 t0 (0 : Int32) h H locs ls hw (lv_sub hl [1, 2, 3, 4, 5, 6, 7, 8, 0] rfl)
    · have h := ok_f h c21
      refine lv_iconst (v := (1 : Int32)) hx hb d_Mo_add_89 (by decide) ?_
      refine lv_goto (tgt := 101) hx hb d_Mo_add_90 (by decide) ?_
      exact w_Mo_add_101 o C0 q ih21 hi21 x1 x3 x6 x7 x8 x11 x12 t0 (1 : Int32) h H locs ls hw (lv_sub hl [1, 2, 3, 4, 5, 6, 7, 8, 0] rfl)
set_option maxHeartbeats 4000000 in
set_option maxRecDepth 100000 in
theorem wb_Mo_add_21 {p : Program} {l : Launch} {e : Env} {s : State} {m : MethodId} {args : Array Value} {below : List Frame} {meth : Method} {c : Code} {D : va_G} {A : Nat → Prop} {ad : Nat → Nat} {ca : Nat → ClassId} (o : (Int64 × z_Sg)) (C0 : z_cx z_RMo b_Mo_add 16 (some .long) D (z_Mt ca) A p s m args meth c) (q : z_Sg) (ih21 : Int64 × Int64 × Int32 × Int32 × Int64 × Int32 × Int32 × Int32 × z_Sg → Option (Int64 × z_Sg)) (hi21 : ∀ a : Int64 × Int64 × Int32 × Int32 × Int64 × Int32 × Int32 × Int32 × z_Sg, ih21 a = some o → ∀ (H : Heap) (locs : List Loc) (ls : Array Slot), z_wd D (z_M ad ca a.2.2.2.2.2.2.2.2) A s H locs → lv_has ls 16 [(0, .ref (ad 0)), (1, .long a.1), (3, .long a.2.1), (6, .int a.2.2.1), (7, .int a.2.2.2.1), (8, .long a.2.2.2.2.1), (10, .int a.2.2.2.2.2.1), (11, .int a.2.2.2.2.2.2.1), (12, .int a.2.2.2.2.2.2.2.1)] → W p l e (z_rm 2 48) s m args below meth c H locs 0 0 (z_ql below D (z_Mt ca) (z_M ad ca o.2) A s args o.1) (F0 m 21 ls [])) (x1 : Int64) (x3 : Int64) (x6 : Int32) (x7 : Int32) (x8 : Int64) (x10 : Int32) (x11 : Int32) (x12 : Int32) (h : kb_Mo_add_21 ih21 x1 x3 x6 x7 x8 x10 x11 x12 q = some o) : ∀ (H : Heap) (locs : List Loc) (ls : Array Slot), z_wd D (z_M ad ca q) A s H locs → lv_has ls 16 [(0, .ref (ad 0)), (1, .long x1), (3, .long x3), (6, .int x6), (7, .int x7), (8, .long x8), (10, .int x10), (11, .int x11), (12, .int x12)] → W p l e (z_rm 2 48) s m args below meth c H locs 0 0 (z_ql below D (z_Mt ca) (z_M ad ca o.2) A s args o.1) (F0 m 21 ls []) := by
  obtain ⟨hx, hb, hr, hlk, hml, hown, hts, hK, hA⟩ := id C0
  intro H locs ls hw hl
  refine lv_iload hx hb d_Mo_add_21 (lv_at hl 8 rfl) ?_
  refine lv_bipush (v := (8 : Int32)) hx hb d_Mo_add_23 (by decide) ?_
  refine lv_iload hx hb d_Mo_add_25 (lv_at hl 4 rfl) ?_
  refine lv_imul hx hb d_Mo_add_27 ?_
  refine lv_icmp_ge (tgt := 149) hx hb d_Mo_add_28 (by decide) (fun c2 => ?_) (fun c2 => ?_)
  · have h := ok_t h c2
    refine lv_aload_n hx hb d_Mo_add_149 rfl (lv_at hl 0 rfl) ?_
    refine gfM_0_flag C0 hw fl_Mo_21 d_Mo_add_150 ?_
    refine lv_iconst (v := (0 : Int32)) hx hb d_Mo_add_153 (by decide) ?_
    refine lv_iload hx hb d_Mo_add_154 (lv_at hl 6 rfl) ?_
    refine lv_iconst (v := (1 : Int32)) hx hb d_Mo_add_156 (by decide) ?_
    refine lv_icmp_ne (tgt := 164) hx hb d_Mo_add_157 (by decide) (fun c3 => ?_) (fun c3 => ?_)
    · have h := ok_f h c3
      refine lv_iconst (v := (0 : Int32)) hx hb d_Mo_add_164 (by decide) ?_
      exact w_Mo_add_165 o C0 q x7 x8 x10 x11 (0 : Int32) (0 : Int32) h H locs ls hw (lv_sub hl [0, 4, 5, 6, 7] rfl)
    · have h := ok_t h c3
      refine lv_iconst (v := (1 : Int32)) hx hb d_Mo_add_160 (by decide) ?_
      refine lv_goto (tgt := 165) hx hb d_Mo_add_161 (by decide) ?_
      exact w_Mo_add_165 o C0 q x7 x8 x10 x11 (0 : Int32) (1 : Int32) h H locs ls hw (lv_sub hl [0, 4, 5, 6, 7] rfl)
  · have h := ok_f h c2
    refine lv_lload_n hx hb d_Mo_add_31 rfl (lv_at hl 1 rfl) ?_
    refine lv_iload hx hb d_Mo_add_32 (lv_at hl 8 rfl) ?_
    refine lv_lushr (v := (z_lushr x1 x12)) hx hb d_Mo_add_34 rfl ?_
    refine lv_lconst (v := (1 : Int64)) hx hb d_Mo_add_35 (by decide) ?_
    refine lv_land hx hb d_Mo_add_36 ?_
    refine lv_l2i hx hb d_Mo_add_37 rfl ?_
    obtain ⟨n10, en10, h⟩ := ok_n h
    refine z_ti en10 ?_
    refine lv_istore (lv' := [(13, .int n10), (0, .ref (ad 0)), (1, .long x1), (3, .long x3), (6, .int x6), (7, .int x7), (8, .long x8), (10, .int x10), (11, .int x11), (12, .int x12)]) hx hb d_Mo_add_38 hl (by decide) rfl (fun ls hl => ?_)
    refine lv_lload_n hx hb d_Mo_add_40 rfl (lv_at hl 3 rfl) ?_
    refine lv_iload hx hb d_Mo_add_41 (lv_at hl 9 rfl) ?_
    refine lv_lushr (v := (z_lushr x3 x12)) hx hb d_Mo_add_43 rfl ?_
    refine lv_lconst (v := (1 : Int64)) hx hb d_Mo_add_44 (by decide) ?_
    refine lv_land hx hb d_Mo_add_45 ?_
    refine lv_l2i hx hb d_Mo_add_46 rfl ?_
    obtain ⟨n11, en11, h⟩ := ok_n h
    refine z_ti en11 ?_
    refine lv_istore (lv' := [(14, .int n11), (13, .int n10), (0, .ref (ad 0)), (1, .long x1), (3, .long x3), (6, .int x6), (7, .int x7), (8, .long x8), (10, .int x10), (11, .int x11), (12, .int x12)]) hx hb d_Mo_add_47 hl (by decide) rfl (fun ls hl => ?_)
    refine lv_iload hx hb d_Mo_add_49 (lv_at hl 8 rfl) ?_
    refine lv_istore (lv' := [(11, .int x10), (14, .int n11), (13, .int n10), (0, .ref (ad 0)), (1, .long x1), (3, .long x3), (6, .int x6), (7, .int x7), (8, .long x8), (10, .int x10), (12, .int x12)]) hx hb d_Mo_add_51 hl (by decide) rfl (fun ls hl => ?_)
    refine lv_iload hx hb d_Mo_add_53 (lv_at hl 6 rfl) ?_
    refine lv_if_eq (tgt := 69) hx hb d_Mo_add_55 (by decide) (fun c12 => ?_) (fun c12 => ?_)
    · have h := ok_t h c12
      refine lv_iload hx hb d_Mo_add_69 (lv_at hl 2 rfl) ?_
      refine lv_iload hx hb d_Mo_add_71 (lv_at hl 1 rfl) ?_
      refine lv_iadd hx hb d_Mo_add_73 ?_
      refine lv_iload hx hb d_Mo_add_74 (lv_at hl 9 rfl) ?_
      refine lv_iadd hx hb d_Mo_add_76 ?_
      exact w_Mo_add_77 o C0 q ih21 hi21 x1 x3 x6 x7 x8 x10 x12 ((n10 + n11) + x10) h H locs ls hw (lv_sub hl [3, 4, 5, 6, 7, 8, 0, 10] rfl)
    · have h := ok_f h c12
      refine lv_iload hx hb d_Mo_add_58 (lv_at hl 2 rfl) ?_
      refine lv_iload hx hb d_Mo_add_60 (lv_at hl 1 rfl) ?_
      refine lv_isub hx hb d_Mo_add_62 ?_
      refine lv_iload hx hb d_Mo_add_63 (lv_at hl 9 rfl) ?_
      refine lv_isub hx hb d_Mo_add_65 ?_
      refine lv_goto (tgt := 77) hx hb d_Mo_add_66 (by decide) ?_
      exact w_Mo_add_77 o C0 q ih21 hi21 x1 x3 x6 x7 x8 x10 x12 ((n10 - n11) - x10) h H locs ls hw (lv_sub hl [3, 4, 5, 6, 7, 8, 0, 10] rfl)
theorem w_Mo_add_21 {p : Program} {l : Launch} {e : Env} {s : State} {m : MethodId} {args : Array Value} {below : List Frame} {meth : Method} {c : Code} {D : va_G} {A : Nat → Prop} {ad : Nat → Nat} {ca : Nat → ClassId} (o : (Int64 × z_Sg)) (C0 : z_cx z_RMo b_Mo_add 16 (some .long) D (z_Mt ca) A p s m args meth c) (q : z_Sg) (x1 : Int64) (x3 : Int64) (x6 : Int32) (x7 : Int32) (x8 : Int64) (x10 : Int32) (x11 : Int32) (x12 : Int32) (h : k_Mo_add_21 x1 x3 x6 x7 x8 x10 x11 x12 q = some o) : ∀ (H : Heap) (locs : List Loc) (ls : Array Slot), z_wd D (z_M ad ca q) A s H locs → lv_has ls 16 [(0, .ref (ad 0)), (1, .long x1), (3, .long x3), (6, .int x6), (7, .int x7), (8, .long x8), (10, .int x10), (11, .int x11), (12, .int x12)] → W p l e (z_rm 2 48) s m args below meth c H locs 0 0 (z_ql below D (z_Mt ca) (z_M ad ca o.2) A s args o.1) (F0 m 21 ls []) := by
  have key : ∀ (n : Nat) (a : Int64 × Int64 × Int32 × Int32 × Int64 × Int32 × Int32 × Int32 × z_Sg), z_lo (fun ih21 a => kb_Mo_add_21 ih21 a.1 a.2.1 a.2.2.1 a.2.2.2.1 a.2.2.2.2.1 a.2.2.2.2.2.1 a.2.2.2.2.2.2.1 a.2.2.2.2.2.2.2.1 a.2.2.2.2.2.2.2.2) n a = some o → ∀ (H : Heap) (locs : List Loc) (ls : Array Slot), z_wd D (z_M ad ca a.2.2.2.2.2.2.2.2) A s H locs → lv_has ls 16 [(0, .ref (ad 0)), (1, .long a.1), (3, .long a.2.1), (6, .int a.2.2.1), (7, .int a.2.2.2.1), (8, .long a.2.2.2.2.1), (10, .int a.2.2.2.2.2.1), (11, .int a.2.2.2.2.2.2.1), (12, .int a.2.2.2.2.2.2.2.1)] → W p l e (z_rm 2 48) s m args below meth c H locs 0 0 (z_ql below D (z_Mt ca) (z_M ad ca o.2) A s args o.1) (F0 m 21 ls []) := by
    intro n
    induction n with
    | zero => intro a h; cases h
    | succ n ih => exact fun a h => wb_Mo_add_21 o C0 a.2.2.2.2.2.2.2.2 (z_lo (fun ih21 a => kb_Mo_add_21 ih21 a.1 a.2.1 a.2.2.1 a.2.2.2.1 a.2.2.2.2.1 a.2.2.2.2.2.1 a.2.2.2.2.2.2.1 a.2.2.2.2.2.2.2.1 a.2.2.2.2.2.2.2.2) n) ih a.1 a.2.1 a.2.2.1 a.2.2.2.1 a.2.2.2.2.1 a.2.2.2.2.2.1 a.2.2.2.2.2.2.1 a.2.2.2.2.2.2.2.1 h
  exact key 2000 (x1, x3, x6, x7, x8, x10, x11, x12, q) h
set_option maxHeartbeats 4000000 in
set_option maxRecDepth 100000 in
theorem w_Mo_add_13 {p : Program} {l : Launch} {e : Env} {s : State} {m : MethodId} {args : Array Value} {below : List Frame} {meth : Method} {c : Code} {D : va_G} {A : Nat → Prop} {ad : Nat → Nat} {ca : Nat → ClassId} (o : (Int64 × z_Sg)) (C0 : z_cx z_RMo b_Mo_add 16 (some .long) D (z_Mt ca) A p s m args meth c) (q : z_Sg) (x1 : Int64) (x3 : Int64) (x6 : Int32) (x7 : Int32) (x8 : Int64) (t0 : Int32) (h : k_Mo_add_13 x1 x3 x6 x7 x8 t0 q = some o) : ∀ (H : Heap) (locs : List Loc) (ls : Array Slot), z_wd D (z_M ad ca q) A s H locs → lv_has ls 16 [(0, .ref (ad 0)), (1, .long x1), (3, .long x3), (6, .int x6), (7, .int x7), (8, .long x8)] → W p l e (z_rm 2 48) s m args below meth c H locs 0 0 (z_ql below D (z_Mt ca) (z_M ad ca o.2) A s args o.1) (F0 m 13 ls [.int t0]) := by
  obtain ⟨hx, hb, hr, hlk, hml, hown, hts, hK, hA⟩ := id C0
  intro H locs ls hw hl
  refine lv_istore (lv' := [(10, .int t0), (0, .ref (ad 0)), (1, .long x1), (3, .long x3), (6, .int x6), (7, .int x7), (8, .long x8)]) hx hb d_Mo_add_13 hl (by decide) rfl (fun ls hl => ?_)
  refine lv_iconst (v := (0 : Int32)) hx hb d_Mo_add_15 (by decide) ?_
  refine lv_istore (lv' := [(11, .int (0 : Int32)), (10, .int t0), (0, .ref (ad 0)), (1, .long x1), (3, .long x3), (6, .int x6), (7, .int x7), (8, .long x8)]) hx hb d_Mo_add_16 hl (by decide) rfl (fun ls hl => ?_)
  refine lv_iconst (v := (0 : Int32)) hx hb d_Mo_add_18 (by decide) ?_
  refine lv_istore (lv' := [(12, .int (0 : Int32)), (11, .int (0 : Int32)), (10, .int t0), (0, .ref (ad 0)), (1, .long x1), (3, .long x3), (6, .int x6), (7, .int x7), (8, .long x8)]) hx hb d_Mo_add_19 hl (by decide) rfl (fun ls hl => ?_)
  exact w_Mo_add_21 o C0 q x1 x3 x6 x7 x8 t0 (0 : Int32) (0 : Int32) h H locs ls hw (lv_sub hl [3, 4, 5, 6, 7, 8, 2, 1, 0] rfl)
set_option maxHeartbeats 4000000 in
set_option maxRecDepth 100000 in
theorem c_Mo_add {l : Launch} {D : va_G} {ad : Nat → Nat} {ca : Nat → ClassId} (x1 : Int64) (x3 : Int64) (x5 : Int32) (x6 : Int32) (x7 : Int32) (q : z_Sg) (o : (Int64 × z_Sg)) (h : f_Mo_add x1 x3 x5 x6 x7 q = some o) : z_cl l y_Mo_add b_Mo_add 16 (some .long) 2 48 D (z_Mt ca) (z_M ad ca q) (z_M ad ca o.2) [.ref (ad 0), .long x1, .long x3, .int x5, .int x6, .int x7] o.1 := by
  refine z_cl_of (own := z_RMo) (by decide) rfl ?_
  intro p e s m below meth c A C0 hw
  obtain ⟨hx, hb, hr, hlk, hml, hown, hts, hK, hA⟩ := id C0
  generalize hH : s.heap = H at hw ⊢
  generalize hlo : ([] : List Loc) = locs at hw ⊢
  refine z_entry (lv := [(0, .ref (ad 0)), (1, .long x1), (3, .long x3), (5, .int x5), (6, .int x6), (7, .int x7)]) (Nat.le_of_ble_eq_true rfl) rfl (fun ls hl => ?_)
  unfold f_Mo_add at h
  refine lv_lconst (v := (0 : Int64)) hx hb d_Mo_add_0 (by decide) ?_
  refine lv_lstore (lv' := [(8, .long (0 : Int64)), (0, .ref (ad 0)), (1, .long x1), (3, .long x3), (5, .int x5), (6, .int x6), (7, .int x7)]) hx hb d_Mo_add_1 hl (by decide) rfl (fun ls hl => ?_)
  refine lv_iload hx hb d_Mo_add_3 (lv_at hl 4 rfl) ?_
  refine lv_if_eq (tgt := 12) hx hb d_Mo_add_5 (by decide) (fun c1 => ?_) (fun c1 => ?_)
  · have h := ok_t h c1
    refine lv_iconst (v := (0 : Int32)) hx hb d_Mo_add_12 (by decide) ?_
    exact w_Mo_add_13 o C0 q x1 x3 x6 x7 (0 : Int64) (0 : Int32) h H locs ls hw (lv_sub hl [1, 2, 3, 5, 6, 0] rfl)
  · have h := ok_f h c1
    refine lv_iconst (v := (1 : Int32)) hx hb d_Mo_add_8 (by decide) ?_
    refine lv_goto (tgt := 13) hx hb d_Mo_add_9 (by decide) ?_
    exact w_Mo_add_13 o C0 q x1 x3 x6 x7 (0 : Int64) (1 : Int32) h H locs ls hw (lv_sub hl [1, 2, 3, 5, 6, 0] rfl)
def k_Mo_undefinedBit_75 (t0 : Int32) (q : z_Sg) : Option Int32 :=
  z_gd (z_bo t0) (some t0)
def k_Mo_undefinedBit_62 (t0 : Int64) (t1 : Int32) (q : z_Sg) : Option Int32 :=
  if ((z_lushr t0 t1) &&& (1 : Int64)) = (1 : Int64) then (k_Mo_undefinedBit_75 (1 : Int32) q) else (k_Mo_undefinedBit_75 (0 : Int32) q)
def f_Mo_undefinedBit (x1 : Int32) (q : z_Sg) : Option Int32 :=
  if x1 = 0 then (k_Mo_undefinedBit_62 (z_gL q 4) (0 : Int32) q) else (if x1 = (1 : Int32) then (k_Mo_undefinedBit_62 (z_gL q 4) (2 : Int32) q) else (if x1 = (2 : Int32) then (k_Mo_undefinedBit_62 (z_gL q 4) (4 : Int32) q) else (if x1 = (3 : Int32) then (k_Mo_undefinedBit_62 (z_gL q 4) (6 : Int32) q) else (if x1 = (4 : Int32) then (k_Mo_undefinedBit_62 (z_gL q 4) (7 : Int32) q) else (if x1 = (5 : Int32) then (k_Mo_undefinedBit_62 (z_gL q 4) (10 : Int32) q) else (k_Mo_undefinedBit_62 (z_gL q 4) (11 : Int32) q))))))
set_option maxHeartbeats 4000000 in
set_option maxRecDepth 100000 in
theorem w_Mo_undefinedBit_75 {p : Program} {l : Launch} {e : Env} {s : State} {m : MethodId} {args : Array Value} {below : List Frame} {meth : Method} {c : Code} {D : va_G} {A : Nat → Prop} {ad : Nat → Nat} {ca : Nat → ClassId} (o : Int32) (C0 : z_cx z_RMo b_Mo_undefinedBit 2 (some .boolean) D (z_Mt ca) A p s m args meth c) (q : z_Sg) (t0 : Int32) (h : k_Mo_undefinedBit_75 t0 q = some o) : ∀ (H : Heap) (locs : List Loc) (ls : Array Slot), z_wd D (z_M ad ca q) A s H locs → lv_has ls 2 [] → W p l e (z_rm 0 0) s m args below meth c H locs 0 0 (z_qi below D (z_Mt ca) (z_M ad ca q) A s args o) (F0 m 75 ls [.int t0]) := by
  obtain ⟨hx, hb, hr, hlk, hml, hown, hts, hK, hA⟩ := id C0
  intro H locs ls hw hl
  obtain ⟨b8, h⟩ := ok_G h
  have ho := Option.some.inj h
  subst ho
  exact z_rtz C0 hw (z_bo_n b8) d_Mo_undefinedBit_75
set_option maxHeartbeats 4000000 in
set_option maxRecDepth 100000 in
theorem w_Mo_undefinedBit_62 {p : Program} {l : Launch} {e : Env} {s : State} {m : MethodId} {args : Array Value} {below : List Frame} {meth : Method} {c : Code} {D : va_G} {A : Nat → Prop} {ad : Nat → Nat} {ca : Nat → ClassId} (o : Int32) (C0 : z_cx z_RMo b_Mo_undefinedBit 2 (some .boolean) D (z_Mt ca) A p s m args meth c) (q : z_Sg) (t0 : Int64) (t1 : Int32) (h : k_Mo_undefinedBit_62 t0 t1 q = some o) : ∀ (H : Heap) (locs : List Loc) (ls : Array Slot), z_wd D (z_M ad ca q) A s H locs → lv_has ls 2 [] → W p l e (z_rm 0 0) s m args below meth c H locs 0 0 (z_qi below D (z_Mt ca) (z_M ad ca q) A s args o) (F0 m 62 ls [.int t1, .long t0]) := by
  obtain ⟨hx, hb, hr, hlk, hml, hown, hts, hK, hA⟩ := id C0
  intro H locs ls hw hl
  refine lv_lushr (v := (z_lushr t0 t1)) hx hb d_Mo_undefinedBit_62 rfl ?_
  refine lv_lconst (v := (1 : Int64)) hx hb d_Mo_undefinedBit_63 (by decide) ?_
  refine lv_land hx hb d_Mo_undefinedBit_64 ?_
  refine lv_lconst (v := (1 : Int64)) hx hb d_Mo_undefinedBit_65 (by decide) ?_
  refine W.lcmp hx hb d_Mo_undefinedBit_66 ?_
  refine lv_if_ne (tgt := 74) hx hb d_Mo_undefinedBit_67 (by decide) (fun c7 => ?_) (fun c7 => ?_)
  · have h := ok_f h (fun z => c7 ((lg_cmp_eq _ _).mpr z))
    refine lv_iconst (v := (0 : Int32)) hx hb d_Mo_undefinedBit_74 (by decide) ?_
    exact w_Mo_undefinedBit_75 o C0 q (0 : Int32) h H locs ls hw (lv_sub hl [] rfl)
  · have h := ok_t h ((lg_cmp_eq _ _).mp c7)
    refine lv_iconst (v := (1 : Int32)) hx hb d_Mo_undefinedBit_70 (by decide) ?_
    refine lv_goto (tgt := 75) hx hb d_Mo_undefinedBit_71 (by decide) ?_
    exact w_Mo_undefinedBit_75 o C0 q (1 : Int32) h H locs ls hw (lv_sub hl [] rfl)
set_option maxHeartbeats 4000000 in
set_option maxRecDepth 100000 in
theorem c_Mo_undefinedBit {l : Launch} {D : va_G} {ad : Nat → Nat} {ca : Nat → ClassId} (x1 : Int32) (q : z_Sg) (o : Int32) (h : f_Mo_undefinedBit x1 q = some o) : z_ci l y_Mo_undefinedBit b_Mo_undefinedBit 2 (some .boolean) 0 0 D (z_Mt ca) (z_M ad ca q) (z_M ad ca q) [.ref (ad 0), .int x1] o := by
  refine z_ci_of (own := z_RMo) (by decide) rfl ?_
  intro p e s m below meth c A C0 hw
  obtain ⟨hx, hb, hr, hlk, hml, hown, hts, hK, hA⟩ := id C0
  generalize hH : s.heap = H at hw ⊢
  generalize hlo : ([] : List Loc) = locs at hw ⊢
  refine z_entry (lv := [(0, .ref (ad 0)), (1, .int x1)]) (Nat.le_of_ble_eq_true rfl) rfl (fun ls hl => ?_)
  unfold f_Mo_undefinedBit at h
  refine lv_aload_n hx hb d_Mo_undefinedBit_0 rfl (lv_at hl 0 rfl) ?_
  refine gfM_0_undefined C0 hw fl_Mo_205 d_Mo_undefinedBit_1 ?_
  refine lv_iload_n hx hb d_Mo_undefinedBit_4 rfl (lv_at hl 1 rfl) ?_
  refine lv_if_ne (tgt := 12) hx hb d_Mo_undefinedBit_5 (by decide) (fun c1 => ?_) (fun c1 => ?_)
  · have h := ok_f h c1
    refine lv_iload_n hx hb d_Mo_undefinedBit_12 rfl (lv_at hl 1 rfl) ?_
    refine lv_iconst (v := (1 : Int32)) hx hb d_Mo_undefinedBit_13 (by decide) ?_
    refine lv_icmp_ne (tgt := 21) hx hb d_Mo_undefinedBit_14 (by decide) (fun c2 => ?_) (fun c2 => ?_)
    · have h := ok_f h c2
      refine lv_iload_n hx hb d_Mo_undefinedBit_21 rfl (lv_at hl 1 rfl) ?_
      refine lv_iconst (v := (2 : Int32)) hx hb d_Mo_undefinedBit_22 (by decide) ?_
      refine lv_icmp_ne (tgt := 30) hx hb d_Mo_undefinedBit_23 (by decide) (fun c3 => ?_) (fun c3 => ?_)
      · have h := ok_f h c3
        refine lv_iload_n hx hb d_Mo_undefinedBit_30 rfl (lv_at hl 1 rfl) ?_
        refine lv_iconst (v := (3 : Int32)) hx hb d_Mo_undefinedBit_31 (by decide) ?_
        refine lv_icmp_ne (tgt := 40) hx hb d_Mo_undefinedBit_32 (by decide) (fun c4 => ?_) (fun c4 => ?_)
        · have h := ok_f h c4
          refine lv_iload_n hx hb d_Mo_undefinedBit_40 rfl (lv_at hl 1 rfl) ?_
          refine lv_iconst (v := (4 : Int32)) hx hb d_Mo_undefinedBit_41 (by decide) ?_
          refine lv_icmp_ne (tgt := 50) hx hb d_Mo_undefinedBit_42 (by decide) (fun c5 => ?_) (fun c5 => ?_)
          · have h := ok_f h c5
            refine lv_iload_n hx hb d_Mo_undefinedBit_50 rfl (lv_at hl 1 rfl) ?_
            refine lv_iconst (v := (5 : Int32)) hx hb d_Mo_undefinedBit_51 (by decide) ?_
            refine lv_icmp_ne (tgt := 60) hx hb d_Mo_undefinedBit_52 (by decide) (fun c6 => ?_) (fun c6 => ?_)
            · have h := ok_f h c6
              refine lv_bipush (v := (11 : Int32)) hx hb d_Mo_undefinedBit_60 (by decide) ?_
              exact w_Mo_undefinedBit_62 o C0 q (z_gL q 4) (11 : Int32) h H locs ls hw (lv_sub hl [] rfl)
            · have h := ok_t h c6
              refine lv_bipush (v := (10 : Int32)) hx hb d_Mo_undefinedBit_55 (by decide) ?_
              refine lv_goto (tgt := 62) hx hb d_Mo_undefinedBit_57 (by decide) ?_
              exact w_Mo_undefinedBit_62 o C0 q (z_gL q 4) (10 : Int32) h H locs ls hw (lv_sub hl [] rfl)
          · have h := ok_t h c5
            refine lv_bipush (v := (7 : Int32)) hx hb d_Mo_undefinedBit_45 (by decide) ?_
            refine lv_goto (tgt := 62) hx hb d_Mo_undefinedBit_47 (by decide) ?_
            exact w_Mo_undefinedBit_62 o C0 q (z_gL q 4) (7 : Int32) h H locs ls hw (lv_sub hl [] rfl)
        · have h := ok_t h c4
          refine lv_bipush (v := (6 : Int32)) hx hb d_Mo_undefinedBit_35 (by decide) ?_
          refine lv_goto (tgt := 62) hx hb d_Mo_undefinedBit_37 (by decide) ?_
          exact w_Mo_undefinedBit_62 o C0 q (z_gL q 4) (6 : Int32) h H locs ls hw (lv_sub hl [] rfl)
      · have h := ok_t h c3
        refine lv_iconst (v := (4 : Int32)) hx hb d_Mo_undefinedBit_26 (by decide) ?_
        refine lv_goto (tgt := 62) hx hb d_Mo_undefinedBit_27 (by decide) ?_
        exact w_Mo_undefinedBit_62 o C0 q (z_gL q 4) (4 : Int32) h H locs ls hw (lv_sub hl [] rfl)
    · have h := ok_t h c2
      refine lv_iconst (v := (2 : Int32)) hx hb d_Mo_undefinedBit_17 (by decide) ?_
      refine lv_goto (tgt := 62) hx hb d_Mo_undefinedBit_18 (by decide) ?_
      exact w_Mo_undefinedBit_62 o C0 q (z_gL q 4) (2 : Int32) h H locs ls hw (lv_sub hl [] rfl)
  · have h := ok_t h c1
    refine lv_iconst (v := (0 : Int32)) hx hb d_Mo_undefinedBit_8 (by decide) ?_
    refine lv_goto (tgt := 62) hx hb d_Mo_undefinedBit_9 (by decide) ?_
    exact w_Mo_undefinedBit_62 o C0 q (z_gL q 4) (0 : Int32) h H locs ls hw (lv_sub hl [] rfl)
def f_Mo_leave (x1 : Int32) (q : z_Sg) : Option z_Sg :=
  (f_Mo_undefinedBit x1 q).bind (fun r1 => if z_bad x1 7 then none else (z_nm (z_sN q 1 x1.toNatClampNeg (vp_nar .boolean r1)) (fun q3 => some q3)))
set_option maxHeartbeats 4000000 in
set_option maxRecDepth 100000 in
theorem c_Mo_leave {l : Launch} {D : va_G} {ad : Nat → Nat} {ca : Nat → ClassId} (x1 : Int32) (q : z_Sg) (o : z_Sg) (h : f_Mo_leave x1 q = some o) : z_cv l y_Mo_leave b_Mo_leave 2 none 1 21 D (z_Mt ca) (z_M ad ca q) (z_M ad ca o) [.ref (ad 0), .int x1] := by
  refine z_cv_of (own := z_RMo) (by decide) rfl ?_
  intro p e s m below meth c A C0 hw
  obtain ⟨hx, hb, hr, hlk, hml, hown, hts, hK, hA⟩ := id C0
  generalize hH : s.heap = H at hw ⊢
  generalize hlo : ([] : List Loc) = locs at hw ⊢
  refine z_entry (lv := [(0, .ref (ad 0)), (1, .int x1)]) (Nat.le_of_ble_eq_true rfl) rfl (fun ls hl => ?_)
  unfold f_Mo_leave at h
  refine lv_aload_n hx hb d_Mo_leave_0 rfl (lv_at hl 0 rfl) ?_
  refine gfM_0_flag C0 hw fl_Mo_21 d_Mo_leave_1 ?_
  refine lv_iload_n hx hb d_Mo_leave_4 rfl (lv_at hl 1 rfl) ?_
  refine lv_aload_n hx hb d_Mo_leave_5 rfl (lv_at hl 0 rfl) ?_
  refine lv_iload_n hx hb d_Mo_leave_6 rfl (lv_at hl 1 rfl) ?_
  obtain ⟨r1, er1, h⟩ := ok_b h
  refine z_vi (rest := [.int x1, .ref (ad 4)]) C0 hw (c_Mo_undefinedBit x1 q r1 er1) mw_Mo_undefinedBit ml_Mo_208 0 rfl ⟨Nat.le_of_ble_eq_true rfl, Nat.le_of_ble_eq_true rfl⟩ ⟨Nat.le_refl 0, Nat.le_refl 0⟩ rfl hl.1 rfl (Nat.le_of_ble_eq_true rfl) d_Mo_leave_7 (fun H locs hw => ?_)
  obtain ⟨b2, h⟩ := ok_g h
  refine asM_4 C0 hw b2 d_Mo_leave_10 (fun H locs hw => ?_)
  obtain ⟨q3, eq3, h⟩ := ok_n h
  rw [← eq3] at hw
  have ho := Option.some.inj h
  subst ho
  exact z_rtv C0 hw d_Mo_leave_11
def f_Mo_logic (x1 : Int64) (x3 : Int32) (q : z_Sg) : Option (Int64 × z_Sg) :=
  if z_bad (0 : Int32) 7 then none else (z_nm (z_sN q 1 (0 : Int32).toNatClampNeg (vp_nar .boolean (0 : Int32))) (fun q2 => if z_bad (6 : Int32) 7 then none else (z_nm (z_sN q2 1 (6 : Int32).toNatClampNeg (vp_nar .boolean (0 : Int32))) (fun q4 => (f_Mo_leave (2 : Int32) q4).bind (fun r5 => (f_Mo_result x1 x3 r5).bind (fun r6 => some (x1, r6)))))))
set_option maxHeartbeats 4000000 in
set_option maxRecDepth 100000 in
theorem c_Mo_logic {l : Launch} {D : va_G} {ad : Nat → Nat} {ca : Nat → ClassId} (x1 : Int64) (x3 : Int32) (q : z_Sg) (o : (Int64 × z_Sg)) (h : f_Mo_logic x1 x3 q = some o) : z_cl l y_Mo_logic b_Mo_logic 4 (some .long) 2 48 D (z_Mt ca) (z_M ad ca q) (z_M ad ca o.2) [.ref (ad 0), .long x1, .int x3] o.1 := by
  refine z_cl_of (own := z_RMo) (by decide) rfl ?_
  intro p e s m below meth c A C0 hw
  obtain ⟨hx, hb, hr, hlk, hml, hown, hts, hK, hA⟩ := id C0
  generalize hH : s.heap = H at hw ⊢
  generalize hlo : ([] : List Loc) = locs at hw ⊢
  refine z_entry (lv := [(0, .ref (ad 0)), (1, .long x1), (3, .int x3)]) (Nat.le_of_ble_eq_true rfl) rfl (fun ls hl => ?_)
  unfold f_Mo_logic at h
  refine lv_aload_n hx hb d_Mo_logic_0 rfl (lv_at hl 0 rfl) ?_
  refine gfM_0_flag C0 hw fl_Mo_21 d_Mo_logic_1 ?_
  refine lv_iconst (v := (0 : Int32)) hx hb d_Mo_logic_4 (by decide) ?_
  refine lv_iconst (v := (0 : Int32)) hx hb d_Mo_logic_5 (by decide) ?_
  obtain ⟨b1, h⟩ := ok_g h
  refine asM_4 C0 hw b1 d_Mo_logic_6 (fun H locs hw => ?_)
  obtain ⟨q2, eq2, h⟩ := ok_n h
  rw [← eq2] at hw
  refine lv_aload_n hx hb d_Mo_logic_7 rfl (lv_at hl 0 rfl) ?_
  refine gfM_0_flag C0 hw fl_Mo_21 d_Mo_logic_8 ?_
  refine lv_bipush (v := (6 : Int32)) hx hb d_Mo_logic_11 (by decide) ?_
  refine lv_iconst (v := (0 : Int32)) hx hb d_Mo_logic_13 (by decide) ?_
  obtain ⟨b3, h⟩ := ok_g h
  refine asM_4 C0 hw b3 d_Mo_logic_14 (fun H locs hw => ?_)
  obtain ⟨q4, eq4, h⟩ := ok_n h
  rw [← eq4] at hw
  refine lv_aload_n hx hb d_Mo_logic_15 rfl (lv_at hl 0 rfl) ?_
  refine lv_iconst (v := (2 : Int32)) hx hb d_Mo_logic_16 (by decide) ?_
  obtain ⟨r5, er5, h⟩ := ok_b h
  refine z_vv (rest := []) C0 hw (c_Mo_leave (2 : Int32) q4 r5 er5) mw_Mo_leave ml_Mo_219 0 rfl ⟨Nat.le_of_ble_eq_true rfl, Nat.le_of_ble_eq_true rfl⟩ ⟨Nat.le_refl 0, Nat.le_refl 0⟩ rfl hl.1 rfl (Nat.le_of_ble_eq_true rfl) d_Mo_logic_17 (fun H locs hw => ?_)
  refine lv_aload_n hx hb d_Mo_logic_20 rfl (lv_at hl 0 rfl) ?_
  refine lv_lload_n hx hb d_Mo_logic_21 rfl (lv_at hl 1 rfl) ?_
  refine lv_iload_n hx hb d_Mo_logic_22 rfl (lv_at hl 2 rfl) ?_
  obtain ⟨r6, er6, h⟩ := ok_b h
  refine z_vv (rest := []) C0 hw (c_Mo_result x1 x3 r5 r6 er6) mw_Mo_result ml_Mo_216 0 rfl ⟨Nat.le_of_ble_eq_true rfl, Nat.le_of_ble_eq_true rfl⟩ ⟨Nat.le_refl 0, Nat.le_refl 0⟩ rfl hl.1 rfl (Nat.le_of_ble_eq_true rfl) d_Mo_logic_23 (fun H locs hw => ?_)
  refine lv_lload_n hx hb d_Mo_logic_26 rfl (lv_at hl 1 rfl) ?_
  have ho := Option.some.inj h
  subst ho
  exact z_rtl C0 hw d_Mo_logic_27
def k_Mo_reckon_100 (x6 : Int32) (x7 : Int32) (t1 : Int64) (t2 : Int64) (t3 : Int32) (q : z_Sg) : Option (Int64 × z_Sg) :=
  (f_Mo_add t1 t2 t3 x7 x6 q).bind (fun r8 => some (r8.1, r8.2))
def k_Mo_reckon_99 (x6 : Int32) (x7 : Int32) (t1 : Int64) (t2 : Int64) (q : z_Sg) : Option (Int64 × z_Sg) :=
  k_Mo_reckon_100 x6 x7 t1 t2 (0 : Int32) q
def k_Mo_reckon_86 (x6 : Int32) (x7 : Int32) (t1 : Int64) (t2 : Int64) (q : z_Sg) : Option (Int64 × z_Sg) :=
  if z_bad (0 : Int32) 7 then none else (if (z_gN q 1 (0 : Int32).toNatClampNeg) = 0 then (k_Mo_reckon_99 x6 x7 t1 t2 q) else (k_Mo_reckon_100 x6 x7 t1 t2 (1 : Int32) q))
def k_Mo_reckon_70 (x1 : Int32) (x2 : Int64) (x4 : Int64) (x6 : Int32) (t0 : Int32) (q : z_Sg) : Option (Int64 × z_Sg) :=
  if x1 = (2 : Int32) then (k_Mo_reckon_86 x6 t0 x2 x4 q) else (if x1 = (3 : Int32) then (k_Mo_reckon_86 x6 t0 x2 x4 q) else (k_Mo_reckon_99 x6 t0 x2 x4 q))
def k_Mo_reckon_65 (x1 : Int32) (x2 : Int64) (x4 : Int64) (x6 : Int32) (q : z_Sg) : Option (Int64 × z_Sg) :=
  k_Mo_reckon_70 x1 x2 x4 x6 (1 : Int32) q
def f_Mo_reckon (x1 : Int32) (x2 : Int64) (x4 : Int64) (x6 : Int32) (q : z_Sg) : Option (Int64 × z_Sg) :=
  if x1 = (1 : Int32) then ((f_Mo_logic (x2 ||| x4) x6 q).bind (fun r14 => some (r14.1, r14.2))) else (if x1 = (4 : Int32) then ((f_Mo_logic (x2 &&& x4) x6 q).bind (fun r13 => some (r13.1, r13.2))) else (if x1 = (6 : Int32) then ((f_Mo_logic (x2 ^^^ x4) x6 q).bind (fun r12 => some (r12.1, r12.2))) else (if x1 = (3 : Int32) then (k_Mo_reckon_65 x1 x2 x4 x6 q) else (if x1 = (5 : Int32) then (k_Mo_reckon_65 x1 x2 x4 x6 q) else (if x1 = (7 : Int32) then (k_Mo_reckon_65 x1 x2 x4 x6 q) else (k_Mo_reckon_70 x1 x2 x4 x6 (0 : Int32) q))))))
set_option maxHeartbeats 4000000 in
set_option maxRecDepth 100000 in
theorem w_Mo_reckon_100 {p : Program} {l : Launch} {e : Env} {s : State} {m : MethodId} {args : Array Value} {below : List Frame} {meth : Method} {c : Code} {D : va_G} {A : Nat → Prop} {ad : Nat → Nat} {ca : Nat → ClassId} (o : (Int64 × z_Sg)) (C0 : z_cx z_RMo b_Mo_reckon 8 (some .long) D (z_Mt ca) A p s m args meth c) (q : z_Sg) (x6 : Int32) (x7 : Int32) (t1 : Int64) (t2 : Int64) (t3 : Int32) (h : k_Mo_reckon_100 x6 x7 t1 t2 t3 q = some o) : ∀ (H : Heap) (locs : List Loc) (ls : Array Slot), z_wd D (z_M ad ca q) A s H locs → lv_has ls 8 [(6, .int x6), (7, .int x7)] → W p l e (z_rm 3 83) s m args below meth c H locs 0 0 (z_ql below D (z_Mt ca) (z_M ad ca o.2) A s args o.1) (F0 m 100 ls [.int t3, .long t2, .long t1, .ref (ad 0)]) := by
  obtain ⟨hx, hb, hr, hlk, hml, hown, hts, hK, hA⟩ := id C0
  intro H locs ls hw hl
  refine lv_iload hx hb d_Mo_reckon_100 (lv_at hl 1 rfl) ?_
  refine lv_iload hx hb d_Mo_reckon_102 (lv_at hl 0 rfl) ?_
  obtain ⟨r8, er8, h⟩ := ok_b h
  refine z_vl (rest := []) C0 hw (c_Mo_add t1 t2 t3 x7 x6 q r8 er8) mw_Mo_add ml_Mo_225 0 rfl ⟨Nat.le_of_ble_eq_true rfl, Nat.le_of_ble_eq_true rfl⟩ ⟨Nat.le_refl 0, Nat.le_refl 0⟩ rfl hl.1 rfl (Nat.le_of_ble_eq_true rfl) d_Mo_reckon_104 (fun H locs hw => ?_)
  have ho := Option.some.inj h
  subst ho
  exact z_rtl C0 hw d_Mo_reckon_107
set_option maxHeartbeats 4000000 in
set_option maxRecDepth 100000 in
theorem w_Mo_reckon_99 {p : Program} {l : Launch} {e : Env} {s : State} {m : MethodId} {args : Array Value} {below : List Frame} {meth : Method} {c : Code} {D : va_G} {A : Nat → Prop} {ad : Nat → Nat} {ca : Nat → ClassId} (o : (Int64 × z_Sg)) (C0 : z_cx z_RMo b_Mo_reckon 8 (some .long) D (z_Mt ca) A p s m args meth c) (q : z_Sg) (x6 : Int32) (x7 : Int32) (t1 : Int64) (t2 : Int64) (h : k_Mo_reckon_99 x6 x7 t1 t2 q = some o) : ∀ (H : Heap) (locs : List Loc) (ls : Array Slot), z_wd D (z_M ad ca q) A s H locs → lv_has ls 8 [(6, .int x6), (7, .int x7)] → W p l e (z_rm 3 83) s m args below meth c H locs 0 0 (z_ql below D (z_Mt ca) (z_M ad ca o.2) A s args o.1) (F0 m 99 ls [.long t2, .long t1, .ref (ad 0)]) := by
  obtain ⟨hx, hb, hr, hlk, hml, hown, hts, hK, hA⟩ := id C0
  intro H locs ls hw hl
  refine lv_iconst (v := (0 : Int32)) hx hb d_Mo_reckon_99 (by decide) ?_
  exact w_Mo_reckon_100 o C0 q x6 x7 t1 t2 (0 : Int32) h H locs ls hw (lv_sub hl [0, 1] rfl)
set_option maxHeartbeats 4000000 in
set_option maxRecDepth 100000 in
theorem w_Mo_reckon_86 {p : Program} {l : Launch} {e : Env} {s : State} {m : MethodId} {args : Array Value} {below : List Frame} {meth : Method} {c : Code} {D : va_G} {A : Nat → Prop} {ad : Nat → Nat} {ca : Nat → ClassId} (o : (Int64 × z_Sg)) (C0 : z_cx z_RMo b_Mo_reckon 8 (some .long) D (z_Mt ca) A p s m args meth c) (q : z_Sg) (x6 : Int32) (x7 : Int32) (t1 : Int64) (t2 : Int64) (h : k_Mo_reckon_86 x6 x7 t1 t2 q = some o) : ∀ (H : Heap) (locs : List Loc) (ls : Array Slot), z_wd D (z_M ad ca q) A s H locs → lv_has ls 8 [(0, .ref (ad 0)), (6, .int x6), (7, .int x7)] → W p l e (z_rm 3 83) s m args below meth c H locs 0 0 (z_ql below D (z_Mt ca) (z_M ad ca o.2) A s args o.1) (F0 m 86 ls [.long t2, .long t1, .ref (ad 0)]) := by
  obtain ⟨hx, hb, hr, hlk, hml, hown, hts, hK, hA⟩ := id C0
  intro H locs ls hw hl
  refine lv_aload_n hx hb d_Mo_reckon_86 rfl (lv_at hl 0 rfl) ?_
  refine gfM_0_flag C0 hw fl_Mo_21 d_Mo_reckon_87 ?_
  refine lv_iconst (v := (0 : Int32)) hx hb d_Mo_reckon_90 (by decide) ?_
  obtain ⟨b6, h⟩ := ok_g h
  refine alM_4 C0 hw b6 d_Mo_reckon_91 ?_
  refine lv_if_eq (tgt := 99) hx hb d_Mo_reckon_92 (by decide) (fun c7 => ?_) (fun c7 => ?_)
  · have h := ok_t h c7
    exact w_Mo_reckon_99 o C0 q x6 x7 t1 t2 h H locs ls hw (lv_sub hl [1, 2] rfl)
  · have h := ok_f h c7
    refine lv_iconst (v := (1 : Int32)) hx hb d_Mo_reckon_95 (by decide) ?_
    refine lv_goto (tgt := 100) hx hb d_Mo_reckon_96 (by decide) ?_
    exact w_Mo_reckon_100 o C0 q x6 x7 t1 t2 (1 : Int32) h H locs ls hw (lv_sub hl [1, 2] rfl)
set_option maxHeartbeats 4000000 in
set_option maxRecDepth 100000 in
theorem w_Mo_reckon_70 {p : Program} {l : Launch} {e : Env} {s : State} {m : MethodId} {args : Array Value} {below : List Frame} {meth : Method} {c : Code} {D : va_G} {A : Nat → Prop} {ad : Nat → Nat} {ca : Nat → ClassId} (o : (Int64 × z_Sg)) (C0 : z_cx z_RMo b_Mo_reckon 8 (some .long) D (z_Mt ca) A p s m args meth c) (q : z_Sg) (x1 : Int32) (x2 : Int64) (x4 : Int64) (x6 : Int32) (t0 : Int32) (h : k_Mo_reckon_70 x1 x2 x4 x6 t0 q = some o) : ∀ (H : Heap) (locs : List Loc) (ls : Array Slot), z_wd D (z_M ad ca q) A s H locs → lv_has ls 8 [(0, .ref (ad 0)), (1, .int x1), (2, .long x2), (4, .long x4), (6, .int x6)] → W p l e (z_rm 3 83) s m args below meth c H locs 0 0 (z_ql below D (z_Mt ca) (z_M ad ca o.2) A s args o.1) (F0 m 70 ls [.int t0]) := by
  obtain ⟨hx, hb, hr, hlk, hml, hown, hts, hK, hA⟩ := id C0
  intro H locs ls hw hl
  refine lv_istore (lv' := [(7, .int t0), (0, .ref (ad 0)), (1, .int x1), (2, .long x2), (4, .long x4), (6, .int x6)]) hx hb d_Mo_reckon_70 hl (by decide) rfl (fun ls hl => ?_)
  refine lv_aload_n hx hb d_Mo_reckon_72 rfl (lv_at hl 1 rfl) ?_
  refine lv_lload_n hx hb d_Mo_reckon_73 rfl (lv_at hl 3 rfl) ?_
  refine lv_lload hx hb d_Mo_reckon_74 (lv_at hl 4 rfl) ?_
  refine lv_iload_n hx hb d_Mo_reckon_76 rfl (lv_at hl 2 rfl) ?_
  refine lv_iconst (v := (2 : Int32)) hx hb d_Mo_reckon_77 (by decide) ?_
  refine lv_icmp_eq (tgt := 86) hx hb d_Mo_reckon_78 (by decide) (fun c5 => ?_) (fun c5 => ?_)
  · have h := ok_t h c5
    exact w_Mo_reckon_86 o C0 q x6 t0 x2 x4 h H locs ls hw (lv_sub hl [1, 5, 0] rfl)
  · have h := ok_f h c5
    refine lv_iload_n hx hb d_Mo_reckon_81 rfl (lv_at hl 2 rfl) ?_
    refine lv_iconst (v := (3 : Int32)) hx hb d_Mo_reckon_82 (by decide) ?_
    refine lv_icmp_ne (tgt := 99) hx hb d_Mo_reckon_83 (by decide) (fun c9 => ?_) (fun c9 => ?_)
    · have h := ok_f h c9
      exact w_Mo_reckon_99 o C0 q x6 t0 x2 x4 h H locs ls hw (lv_sub hl [5, 0] rfl)
    · have h := ok_t h c9
      exact w_Mo_reckon_86 o C0 q x6 t0 x2 x4 h H locs ls hw (lv_sub hl [1, 5, 0] rfl)
set_option maxHeartbeats 4000000 in
set_option maxRecDepth 100000 in
theorem w_Mo_reckon_65 {p : Program} {l : Launch} {e : Env} {s : State} {m : MethodId} {args : Array Value} {below : List Frame} {meth : Method} {c : Code} {D : va_G} {A : Nat → Prop} {ad : Nat → Nat} {ca : Nat → ClassId} (o : (Int64 × z_Sg)) (C0 : z_cx z_RMo b_Mo_reckon 8 (some .long) D (z_Mt ca) A p s m args meth c) (q : z_Sg) (x1 : Int32) (x2 : Int64) (x4 : Int64) (x6 : Int32) (h : k_Mo_reckon_65 x1 x2 x4 x6 q = some o) : ∀ (H : Heap) (locs : List Loc) (ls : Array Slot), z_wd D (z_M ad ca q) A s H locs → lv_has ls 8 [(0, .ref (ad 0)), (1, .int x1), (2, .long x2), (4, .long x4), (6, .int x6)] → W p l e (z_rm 3 83) s m args below meth c H locs 0 0 (z_ql below D (z_Mt ca) (z_M ad ca o.2) A s args o.1) (F0 m 65 ls []) := by
  obtain ⟨hx, hb, hr, hlk, hml, hown, hts, hK, hA⟩ := id C0
  intro H locs ls hw hl
  refine lv_iconst (v := (1 : Int32)) hx hb d_Mo_reckon_65 (by decide) ?_
  refine lv_goto (tgt := 70) hx hb d_Mo_reckon_66 (by decide) ?_
  exact w_Mo_reckon_70 o C0 q x1 x2 x4 x6 (1 : Int32) h H locs ls hw (lv_sub hl [0, 1, 2, 3, 4] rfl)
set_option maxHeartbeats 4000000 in
set_option maxRecDepth 100000 in
theorem c_Mo_reckon {l : Launch} {D : va_G} {ad : Nat → Nat} {ca : Nat → ClassId} (x1 : Int32) (x2 : Int64) (x4 : Int64) (x6 : Int32) (q : z_Sg) (o : (Int64 × z_Sg)) (h : f_Mo_reckon x1 x2 x4 x6 q = some o) : z_cl l y_Mo_reckon b_Mo_reckon 8 (some .long) 3 83 D (z_Mt ca) (z_M ad ca q) (z_M ad ca o.2) [.ref (ad 0), .int x1, .long x2, .long x4, .int x6] o.1 := by
  refine z_cl_of (own := z_RMo) (by decide) rfl ?_
  intro p e s m below meth c A C0 hw
  obtain ⟨hx, hb, hr, hlk, hml, hown, hts, hK, hA⟩ := id C0
  generalize hH : s.heap = H at hw ⊢
  generalize hlo : ([] : List Loc) = locs at hw ⊢
  refine z_entry (lv := [(0, .ref (ad 0)), (1, .int x1), (2, .long x2), (4, .long x4), (6, .int x6)]) (Nat.le_of_ble_eq_true rfl) rfl (fun ls hl => ?_)
  unfold f_Mo_reckon at h
  refine lv_iload_n hx hb d_Mo_reckon_0 rfl (lv_at hl 1 rfl) ?_
  refine lv_iconst (v := (1 : Int32)) hx hb d_Mo_reckon_1 (by decide) ?_
  refine lv_icmp_ne (tgt := 16) hx hb d_Mo_reckon_2 (by decide) (fun c1 => ?_) (fun c1 => ?_)
  · have h := ok_f h c1
    refine lv_iload_n hx hb d_Mo_reckon_16 rfl (lv_at hl 1 rfl) ?_
    refine lv_iconst (v := (4 : Int32)) hx hb d_Mo_reckon_17 (by decide) ?_
    refine lv_icmp_ne (tgt := 32) hx hb d_Mo_reckon_18 (by decide) (fun c2 => ?_) (fun c2 => ?_)
    · have h := ok_f h c2
      refine lv_iload_n hx hb d_Mo_reckon_32 rfl (lv_at hl 1 rfl) ?_
      refine lv_bipush (v := (6 : Int32)) hx hb d_Mo_reckon_33 (by decide) ?_
      refine lv_icmp_ne (tgt := 49) hx hb d_Mo_reckon_35 (by decide) (fun c3 => ?_) (fun c3 => ?_)
      · have h := ok_f h c3
        refine lv_iload_n hx hb d_Mo_reckon_49 rfl (lv_at hl 1 rfl) ?_
        refine lv_iconst (v := (3 : Int32)) hx hb d_Mo_reckon_50 (by decide) ?_
        refine lv_icmp_eq (tgt := 65) hx hb d_Mo_reckon_51 (by decide) (fun c4 => ?_) (fun c4 => ?_)
        · have h := ok_t h c4
          exact w_Mo_reckon_65 o C0 q x1 x2 x4 x6 h H locs ls hw (lv_sub hl [0, 1, 2, 3, 4] rfl)
        · have h := ok_f h c4
          refine lv_iload_n hx hb d_Mo_reckon_54 rfl (lv_at hl 1 rfl) ?_
          refine lv_iconst (v := (5 : Int32)) hx hb d_Mo_reckon_55 (by decide) ?_
          refine lv_icmp_eq (tgt := 65) hx hb d_Mo_reckon_56 (by decide) (fun c10 => ?_) (fun c10 => ?_)
          · have h := ok_t h c10
            exact w_Mo_reckon_65 o C0 q x1 x2 x4 x6 h H locs ls hw (lv_sub hl [0, 1, 2, 3, 4] rfl)
          · have h := ok_f h c10
            refine lv_iload_n hx hb d_Mo_reckon_59 rfl (lv_at hl 1 rfl) ?_
            refine lv_bipush (v := (7 : Int32)) hx hb d_Mo_reckon_60 (by decide) ?_
            refine lv_icmp_ne (tgt := 69) hx hb d_Mo_reckon_62 (by decide) (fun c11 => ?_) (fun c11 => ?_)
            · have h := ok_f h c11
              refine lv_iconst (v := (0 : Int32)) hx hb d_Mo_reckon_69 (by decide) ?_
              exact w_Mo_reckon_70 o C0 q x1 x2 x4 x6 (0 : Int32) h H locs ls hw (lv_sub hl [0, 1, 2, 3, 4] rfl)
            · have h := ok_t h c11
              exact w_Mo_reckon_65 o C0 q x1 x2 x4 x6 h H locs ls hw (lv_sub hl [0, 1, 2, 3, 4] rfl)
      · have h := ok_t h c3
        refine lv_aload_n hx hb d_Mo_reckon_38 rfl (lv_at hl 0 rfl) ?_
        refine lv_lload_n hx hb d_Mo_reckon_39 rfl (lv_at hl 2 rfl) ?_
        refine lv_lload hx hb d_Mo_reckon_40 (lv_at hl 3 rfl) ?_
        refine lv_lxor hx hb d_Mo_reckon_42 ?_
        refine lv_iload hx hb d_Mo_reckon_43 (lv_at hl 4 rfl) ?_
        obtain ⟨r12, er12, h⟩ := ok_b h
        refine z_vl (rest := []) C0 hw (c_Mo_logic (x2 ^^^ x4) x6 q r12 er12) mw_Mo_logic ml_Mo_222 0 rfl ⟨Nat.le_of_ble_eq_true rfl, Nat.le_of_ble_eq_true rfl⟩ ⟨Nat.le_refl 0, Nat.le_refl 0⟩ rfl hl.1 rfl (Nat.le_of_ble_eq_true rfl) d_Mo_reckon_45 (fun H locs hw => ?_)
        have ho := Option.some.inj h
        subst ho
        exact z_rtl C0 hw d_Mo_reckon_48
    · have h := ok_t h c2
      refine lv_aload_n hx hb d_Mo_reckon_21 rfl (lv_at hl 0 rfl) ?_
      refine lv_lload_n hx hb d_Mo_reckon_22 rfl (lv_at hl 2 rfl) ?_
      refine lv_lload hx hb d_Mo_reckon_23 (lv_at hl 3 rfl) ?_
      refine lv_land hx hb d_Mo_reckon_25 ?_
      refine lv_iload hx hb d_Mo_reckon_26 (lv_at hl 4 rfl) ?_
      obtain ⟨r13, er13, h⟩ := ok_b h
      refine z_vl (rest := []) C0 hw (c_Mo_logic (x2 &&& x4) x6 q r13 er13) mw_Mo_logic ml_Mo_222 0 rfl ⟨Nat.le_of_ble_eq_true rfl, Nat.le_of_ble_eq_true rfl⟩ ⟨Nat.le_refl 0, Nat.le_refl 0⟩ rfl hl.1 rfl (Nat.le_of_ble_eq_true rfl) d_Mo_reckon_28 (fun H locs hw => ?_)
      have ho := Option.some.inj h
      subst ho
      exact z_rtl C0 hw d_Mo_reckon_31
  · have h := ok_t h c1
    refine lv_aload_n hx hb d_Mo_reckon_5 rfl (lv_at hl 0 rfl) ?_
    refine lv_lload_n hx hb d_Mo_reckon_6 rfl (lv_at hl 2 rfl) ?_
    refine lv_lload hx hb d_Mo_reckon_7 (lv_at hl 3 rfl) ?_
    refine lv_lor hx hb d_Mo_reckon_9 ?_
    refine lv_iload hx hb d_Mo_reckon_10 (lv_at hl 4 rfl) ?_
    obtain ⟨r14, er14, h⟩ := ok_b h
    refine z_vl (rest := []) C0 hw (c_Mo_logic (x2 ||| x4) x6 q r14 er14) mw_Mo_logic ml_Mo_222 0 rfl ⟨Nat.le_of_ble_eq_true rfl, Nat.le_of_ble_eq_true rfl⟩ ⟨Nat.le_refl 0, Nat.le_refl 0⟩ rfl hl.1 rfl (Nat.le_of_ble_eq_true rfl) d_Mo_reckon_12 (fun H locs hw => ?_)
    have ho := Option.some.inj h
    subst ho
    exact z_rtl C0 hw d_Mo_reckon_15
