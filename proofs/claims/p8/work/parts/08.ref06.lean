def k_Mo_string_315 (q : z_Sg) : Option z_Sg :=
  some q
def k_Mo_string_300 (t0 : Int32) (q : z_Sg) : Option z_Sg :=
  if t0 = 0 then (z_nm (z_sL q 7 (z_gL q 0)) (fun q27 => k_Mo_string_315 q27)) else (k_Mo_string_315 q)
def k_Mo_string_295 (q : z_Sg) : Option z_Sg :=
  k_Mo_string_300 (1 : Int32) q
def k_Mo_string_299 (q : z_Sg) : Option z_Sg :=
  k_Mo_string_300 (0 : Int32) q
def k_Mo_string_292 (t0 : Int32) (t1 : Int32) (q : z_Sg) : Option z_Sg :=
  if t0 = t1 then (k_Mo_string_295 q) else (k_Mo_string_299 q)
def k_Mo_string_235 (x4 : Int32) (t1 : Int32) (t2 : Int64) (t3 : Int64) (q : z_Sg) : Option z_Sg :=
  if z_bad t1 16 then none else (z_nm (z_sM q 0 t1.toNatClampNeg (t2 + t3)) (fun q19 => if (z_gI q19 11) = 0 then (some q19) else (if z_bad (1 : Int32) 16 then none else (if z_bad (1 : Int32) 16 then none else (z_nm (z_sM q19 0 (1 : Int32).toNatClampNeg ((z_gM q19 0 (1 : Int32).toNatClampNeg) - (1 : Int64))) (fun q23 => if z_bad (1 : Int32) 16 then none else (if (z_gM q23 0 (1 : Int32).toNatClampNeg) = (0 : Int64) then (k_Mo_string_295 q23) else (if x4 = 0 then (k_Mo_string_299 q23) else (if z_bad (3 : Int32) 7 then none else (if (z_gI q23 11) = (242 : Int32) then (k_Mo_string_292 (z_gN q23 1 (3 : Int32).toNatClampNeg) (1 : Int32) q23) else (k_Mo_string_292 (z_gN q23 1 (3 : Int32).toNatClampNeg) (0 : Int32) q23)))))))))))
def k_Mo_string_214 (x4 : Int32) (x5 : Int32) (x8 : Int64) (t1 : Int32) (t2 : Int64) (t3 : Int64) (q : z_Sg) : Option z_Sg :=
  if z_bad t1 16 then none else (z_nm (z_sM q 0 t1.toNatClampNeg (t2 + t3)) (fun q15 => if z_bad (7 : Int32) 16 then none else (if x5 = 0 then (k_Mo_string_235 x4 (7 : Int32) (z_gM q15 0 (7 : Int32).toNatClampNeg) (0 : Int64) q15) else (k_Mo_string_235 x4 (7 : Int32) (z_gM q15 0 (7 : Int32).toNatClampNeg) x8 q15))))
def k_Mo_string_194 (x3 : Int32) (x4 : Int32) (x5 : Int32) (t0 : Int64) (q : z_Sg) : Option z_Sg :=
  if z_bad (6 : Int32) 16 then none else (if x3 = 0 then (k_Mo_string_214 x4 x5 t0 (6 : Int32) (z_gM q 0 (6 : Int32).toNatClampNeg) (0 : Int64) q) else (k_Mo_string_214 x4 x5 t0 (6 : Int32) (z_gM q 0 (6 : Int32).toNatClampNeg) t0 q))
def k_Mo_string_177 (x2 : Int32) (x3 : Int32) (x4 : Int32) (x5 : Int32) (q : z_Sg) : Option z_Sg :=
  if z_bad (5 : Int32) 7 then none else (if (z_gN q 1 (5 : Int32).toNatClampNeg) = 0 then (k_Mo_string_194 x3 x4 x5 (x2.toInt64) q) else (k_Mo_string_194 x3 x4 x5 ((-x2).toInt64) q))
def k_Mo_string_107 (x2 : Int32) (x3 : Int32) (x4 : Int32) (x5 : Int32) (t0 : Int64) (q : z_Sg) : Option z_Sg :=
  if x4 = 0 then (if x5 = 0 then ((f_Mo_put8 (0 : Int32) x2 t0 q).bind (fun r9 => k_Mo_string_177 x2 x3 x4 x5 r9)) else (if z_bad (7 : Int32) 16 then none else ((f_Mo_lookUp (z_gM q 0 (7 : Int32).toNatClampNeg) x2 (1 : Int32) (0 : Int32) q).bind (fun r33 => (f_Mo_hold t0 x2 r33).bind (fun r34 => k_Mo_string_177 x2 x3 x4 x5 r34))))) else (if z_bad (7 : Int32) 16 then none else ((f_Mo_load (z_gM q 0 (7 : Int32).toNatClampNeg) x2 (0 : Int32) q).bind (fun r36 => (f_Mo_add t0 r36.1 (0 : Int32) (1 : Int32) x2 r36.2).bind (fun r37 => k_Mo_string_177 x2 x3 x4 x5 r37.2))))
def k_Mo_string_79 (x2 : Int32) (x3 : Int32) (x4 : Int32) (t0 : Int32) (q : z_Sg) : Option z_Sg :=
  if x3 = 0 then ((f_Mo_get8 (0 : Int32) x2 q).bind (fun r6 => k_Mo_string_107 x2 x3 x4 t0 r6 q)) else (if z_bad (6 : Int32) 16 then none else ((f_Mo_load (z_gM q 0 (6 : Int32).toNatClampNeg) x2 (0 : Int32) q).bind (fun r39 => k_Mo_string_107 x2 x3 x4 t0 r39.1 r39.2)))
def k_Mo_string_65 (x1 : Int32) (x2 : Int32) (x3 : Int32) (t0 : Int32) (q : z_Sg) : Option z_Sg :=
  if x1 = (172 : Int32) then (k_Mo_string_79 x2 x3 t0 (0 : Int32) q) else (k_Mo_string_79 x2 x3 t0 (1 : Int32) q)
def k_Mo_string_60 (x1 : Int32) (x2 : Int32) (x3 : Int32) (q : z_Sg) : Option z_Sg :=
  k_Mo_string_65 x1 x2 x3 (1 : Int32) q
def k_Mo_string_45 (x1 : Int32) (x2 : Int32) (t0 : Int32) (q : z_Sg) : Option z_Sg :=
  if x1 = (166 : Int32) then (k_Mo_string_60 x1 x2 t0 q) else (if x1 = (174 : Int32) then (k_Mo_string_60 x1 x2 t0 q) else (k_Mo_string_65 x1 x2 t0 (0 : Int32) q))
def k_Mo_string_40 (x1 : Int32) (x2 : Int32) (q : z_Sg) : Option z_Sg :=
  k_Mo_string_45 x1 x2 (1 : Int32) q
def k_Mo_string_19 (x1 : Int32) (x2 : Int32) (q : z_Sg) : Option z_Sg :=
  if x1 = (164 : Int32) then (k_Mo_string_40 x1 x2 q) else (if x1 = (166 : Int32) then (k_Mo_string_40 x1 x2 q) else (if x1 = (172 : Int32) then (k_Mo_string_40 x1 x2 q) else (k_Mo_string_45 x1 x2 (0 : Int32) q)))
def f_Mo_string (x1 : Int32) (x2 : Int32) (q : z_Sg) : Option z_Sg :=
  if (z_gI q 11) = 0 then (k_Mo_string_19 x1 x2 q) else (if z_bad (1 : Int32) 16 then none else (if (z_gM q 0 (1 : Int32).toNatClampNeg) = (0 : Int64) then (some q) else (k_Mo_string_19 x1 x2 q)))
set_option maxHeartbeats 4000000 in
set_option maxRecDepth 100000 in
theorem w_Mo_string_315 {p : Program} {l : Launch} {e : Env} {s : State} {m : MethodId} {args : Array Value} {below : List Frame} {meth : Method} {c : Code} {D : va_G} {A : Nat → Prop} {ad : Nat → Nat} {ca : Nat → ClassId} (o : z_Sg) (C0 : z_cx z_RMo b_Mo_string 11 none D (z_Mt ca) A p s m args meth c) (q : z_Sg) (h : k_Mo_string_315 q = some o) : ∀ (H : Heap) (locs : List Loc) (ls : Array Slot), z_wd D (z_M ad ca q) A s H locs → lv_has ls 11 [] → W p l e (z_rm 5 131) s m args below meth c H locs 0 0 (z_qv below D (z_Mt ca) (z_M ad ca o) A s args) (F0 m 315 ls []) := by
  obtain ⟨hx, hb, hr, hlk, hml, hown, hts, hK, hA⟩ := id C0
  intro H locs ls hw hl
  have ho := Option.some.inj h
  subst ho
  exact z_rtv C0 hw d_Mo_string_315
set_option maxHeartbeats 4000000 in
set_option maxRecDepth 100000 in
theorem w_Mo_string_300 {p : Program} {l : Launch} {e : Env} {s : State} {m : MethodId} {args : Array Value} {below : List Frame} {meth : Method} {c : Code} {D : va_G} {A : Nat → Prop} {ad : Nat → Nat} {ca : Nat → ClassId} (o : z_Sg) (C0 : z_cx z_RMo b_Mo_string 11 none D (z_Mt ca) A p s m args meth c) (q : z_Sg) (t0 : Int32) (h : k_Mo_string_300 t0 q = some o) : ∀ (H : Heap) (locs : List Loc) (ls : Array Slot), z_wd D (z_M ad ca q) A s H locs → lv_has ls 11 [(0, .ref (ad 0))] → W p l e (z_rm 5 131) s m args below meth c H locs 0 0 (z_qv below D (z_Mt ca) (z_M ad ca o) A s args) (F0 m 300 ls [.int t0]) := by
  obtain ⟨hx, hb, hr, hlk, hml, hown, hts, hK, hA⟩ := id C0
  intro H locs ls hw hl
  refine lv_istore (lv' := [(10, .int t0), (0, .ref (ad 0))]) hx hb d_Mo_string_300 hl (by decide) rfl (fun ls hl => ?_)
  refine lv_iload hx hb d_Mo_string_302 (lv_at hl 0 rfl) ?_
  refine lv_if_ne (tgt := 315) hx hb d_Mo_string_304 (by decide) (fun c26 => ?_) (fun c26 => ?_)
  · have h := ok_f h c26
    exact w_Mo_string_315 o C0 q h H locs ls hw (lv_sub hl [] rfl)
  · have h := ok_t h c26
    refine lv_aload_n hx hb d_Mo_string_307 rfl (lv_at hl 1 rfl) ?_
    refine lv_aload_n hx hb d_Mo_string_308 rfl (lv_at hl 1 rfl) ?_
    refine gfM_0_next C0 hw fl_Mo_111 d_Mo_string_309 ?_
    refine pfM_0_goes C0 hw fl_Mo_173 d_Mo_string_312 (fun H locs hw => ?_)
    obtain ⟨q27, eq27, h⟩ := ok_n h
    rw [← eq27] at hw
    exact w_Mo_string_315 o C0 q27 h H locs ls hw (lv_sub hl [] rfl)
set_option maxHeartbeats 4000000 in
set_option maxRecDepth 100000 in
theorem w_Mo_string_295 {p : Program} {l : Launch} {e : Env} {s : State} {m : MethodId} {args : Array Value} {below : List Frame} {meth : Method} {c : Code} {D : va_G} {A : Nat → Prop} {ad : Nat → Nat} {ca : Nat → ClassId} (o : z_Sg) (C0 : z_cx z_RMo b_Mo_string 11 none D (z_Mt ca) A p s m args meth c) (q : z_Sg) (h : k_Mo_string_295 q = some o) : ∀ (H : Heap) (locs : List Loc) (ls : Array Slot), z_wd D (z_M ad ca q) A s H locs → lv_has ls 11 [(0, .ref (ad 0))] → W p l e (z_rm 5 131) s m args below meth c H locs 0 0 (z_qv below D (z_Mt ca) (z_M ad ca o) A s args) (F0 m 295 ls []) := by
  obtain ⟨hx, hb, hr, hlk, hml, hown, hts, hK, hA⟩ := id C0
  intro H locs ls hw hl
  refine lv_iconst (v := (1 : Int32)) hx hb d_Mo_string_295 (by decide) ?_
  refine lv_goto (tgt := 300) hx hb d_Mo_string_296 (by decide) ?_
  exact w_Mo_string_300 o C0 q (1 : Int32) h H locs ls hw (lv_sub hl [0] rfl)
set_option maxHeartbeats 4000000 in
set_option maxRecDepth 100000 in
theorem w_Mo_string_299 {p : Program} {l : Launch} {e : Env} {s : State} {m : MethodId} {args : Array Value} {below : List Frame} {meth : Method} {c : Code} {D : va_G} {A : Nat → Prop} {ad : Nat → Nat} {ca : Nat → ClassId} (o : z_Sg) (C0 : z_cx z_RMo b_Mo_string 11 none D (z_Mt ca) A p s m args meth c) (q : z_Sg) (h : k_Mo_string_299 q = some o) : ∀ (H : Heap) (locs : List Loc) (ls : Array Slot), z_wd D (z_M ad ca q) A s H locs → lv_has ls 11 [(0, .ref (ad 0))] → W p l e (z_rm 5 131) s m args below meth c H locs 0 0 (z_qv below D (z_Mt ca) (z_M ad ca o) A s args) (F0 m 299 ls []) := by
  obtain ⟨hx, hb, hr, hlk, hml, hown, hts, hK, hA⟩ := id C0
  intro H locs ls hw hl
  refine lv_iconst (v := (0 : Int32)) hx hb d_Mo_string_299 (by decide) ?_
  exact w_Mo_string_300 o C0 q (0 : Int32) h H locs ls hw (lv_sub hl [0] rfl)
set_option maxHeartbeats 4000000 in
set_option maxRecDepth 100000 in
theorem w_Mo_string_292 {p : Program} {l : Launch} {e : Env} {s : State} {m : MethodId} {args : Array Value} {below : List Frame} {meth : Method} {c : Code} {D : va_G} {A : Nat → Prop} {ad : Nat → Nat} {ca : Nat → ClassId} (o : z_Sg) (C0 : z_cx z_RMo b_Mo_string 11 none D (z_Mt ca) A p s m args meth c) (q : z_Sg) (t0 : Int32) (t1 : Int32) (h : k_Mo_string_292 t0 t1 q = some o) : ∀ (H : Heap) (locs : List Loc) (ls : Array Slot), z_wd D (z_M ad ca q) A s H locs → lv_has ls 11 [(0, .ref (ad 0))] → W p l e (z_rm 5 131) s m args below meth c H locs 0 0 (z_qv below D (z_Mt ca) (z_M ad ca o) A s args) (F0 m 292 ls [.int t1, .int t0]) := by
  obtain ⟨hx, hb, hr, hlk, hml, hown, hts, hK, hA⟩ := id C0
  intro H locs ls hw hl
  refine lv_icmp_ne (tgt := 299) hx hb d_Mo_string_292 (by decide) (fun c31 => ?_) (fun c31 => ?_)
  · have h := ok_f h c31
    exact w_Mo_string_299 o C0 q h H locs ls hw (lv_sub hl [0] rfl)
  · have h := ok_t h c31
    exact w_Mo_string_295 o C0 q h H locs ls hw (lv_sub hl [0] rfl)
set_option maxHeartbeats 4000000 in
set_option maxRecDepth 100000 in
theorem w_Mo_string_235 {p : Program} {l : Launch} {e : Env} {s : State} {m : MethodId} {args : Array Value} {below : List Frame} {meth : Method} {c : Code} {D : va_G} {A : Nat → Prop} {ad : Nat → Nat} {ca : Nat → ClassId} (o : z_Sg) (C0 : z_cx z_RMo b_Mo_string 11 none D (z_Mt ca) A p s m args meth c) (q : z_Sg) (x4 : Int32) (t1 : Int32) (t2 : Int64) (t3 : Int64) (h : k_Mo_string_235 x4 t1 t2 t3 q = some o) : ∀ (H : Heap) (locs : List Loc) (ls : Array Slot), z_wd D (z_M ad ca q) A s H locs → lv_has ls 11 [(0, .ref (ad 0)), (4, .int x4)] → W p l e (z_rm 5 131) s m args below meth c H locs 0 0 (z_qv below D (z_Mt ca) (z_M ad ca o) A s args) (F0 m 235 ls [.long t3, .long t2, .int t1, .ref (ad 2)]) := by
  obtain ⟨hx, hb, hr, hlk, hml, hown, hts, hK, hA⟩ := id C0
  intro H locs ls hw hl
  refine lv_ladd hx hb d_Mo_string_235 ?_
  obtain ⟨b18, h⟩ := ok_g h
  refine asM_2 C0 hw b18 d_Mo_string_236 (fun H locs hw => ?_)
  obtain ⟨q19, eq19, h⟩ := ok_n h
  rw [← eq19] at hw
  refine lv_aload_n hx hb d_Mo_string_237 rfl (lv_at hl 0 rfl) ?_
  refine gfM_0_repeat C0 hw fl_Mo_124 d_Mo_string_238 ?_
  refine lv_if_ne (tgt := 245) hx hb d_Mo_string_241 (by decide) (fun c20 => ?_) (fun c20 => ?_)
  · have h := ok_f h c20
    refine lv_aload_n hx hb d_Mo_string_245 rfl (lv_at hl 0 rfl) ?_
    refine gfM_0_r C0 hw fl_Mo_14 d_Mo_string_246 ?_
    refine lv_iconst (v := (1 : Int32)) hx hb d_Mo_string_249 (by decide) ?_
    refine lv_dup2_11 hx hb d_Mo_string_250 rfl rfl ?_
    obtain ⟨b21, h⟩ := ok_g h
    refine alM_2 C0 hw b21 d_Mo_string_251 ?_
    refine lv_lconst (v := (1 : Int64)) hx hb d_Mo_string_252 (by decide) ?_
    refine lv_lsub hx hb d_Mo_string_253 ?_
    obtain ⟨b22, h⟩ := ok_g h
    refine asM_2 C0 hw b22 d_Mo_string_254 (fun H locs hw => ?_)
    obtain ⟨q23, eq23, h⟩ := ok_n h
    rw [← eq23] at hw
    refine lv_aload_n hx hb d_Mo_string_255 rfl (lv_at hl 0 rfl) ?_
    refine gfM_0_r C0 hw fl_Mo_14 d_Mo_string_256 ?_
    refine lv_iconst (v := (1 : Int32)) hx hb d_Mo_string_259 (by decide) ?_
    obtain ⟨b24, h⟩ := ok_g h
    refine alM_2 C0 hw b24 d_Mo_string_260 ?_
    refine lv_lconst (v := (0 : Int64)) hx hb d_Mo_string_261 (by decide) ?_
    refine W.lcmp hx hb d_Mo_string_262 ?_
    refine lv_if_eq (tgt := 295) hx hb d_Mo_string_263 (by decide) (fun c25 => ?_) (fun c25 => ?_)
    · have h := ok_t h ((lg_cmp_eq _ _).mp c25)
      exact w_Mo_string_295 o C0 q23 h H locs ls hw (lv_sub hl [0] rfl)
    · have h := ok_f h (fun z => c25 ((lg_cmp_eq _ _).mpr z))
      refine lv_iload hx hb d_Mo_string_266 (lv_at hl 1 rfl) ?_
      refine lv_if_eq (tgt := 299) hx hb d_Mo_string_268 (by decide) (fun c28 => ?_) (fun c28 => ?_)
      · have h := ok_t h c28
        exact w_Mo_string_299 o C0 q23 h H locs ls hw (lv_sub hl [0] rfl)
      · have h := ok_f h c28
        refine lv_aload_n hx hb d_Mo_string_271 rfl (lv_at hl 0 rfl) ?_
        refine gfM_0_flag C0 hw fl_Mo_21 d_Mo_string_272 ?_
        refine lv_iconst (v := (3 : Int32)) hx hb d_Mo_string_275 (by decide) ?_
        obtain ⟨b29, h⟩ := ok_g h
        refine alM_4 C0 hw b29 d_Mo_string_276 ?_
        refine lv_aload_n hx hb d_Mo_string_277 rfl (lv_at hl 0 rfl) ?_
        refine gfM_0_repeat C0 hw fl_Mo_124 d_Mo_string_278 ?_
        refine lv_sipush (v := (242 : Int32)) hx hb d_Mo_string_281 (by decide) ?_
        refine lv_icmp_ne (tgt := 291) hx hb d_Mo_string_284 (by decide) (fun c30 => ?_) (fun c30 => ?_)
        · have h := ok_f h c30
          refine lv_iconst (v := (0 : Int32)) hx hb d_Mo_string_291 (by decide) ?_
          exact w_Mo_string_292 o C0 q23 (z_gN q23 1 (3 : Int32).toNatClampNeg) (0 : Int32) h H locs ls hw (lv_sub hl [0] rfl)
        · have h := ok_t h c30
          refine lv_iconst (v := (1 : Int32)) hx hb d_Mo_string_287 (by decide) ?_
          refine lv_goto (tgt := 292) hx hb d_Mo_string_288 (by decide) ?_
          exact w_Mo_string_292 o C0 q23 (z_gN q23 1 (3 : Int32).toNatClampNeg) (1 : Int32) h H locs ls hw (lv_sub hl [0] rfl)
  · have h := ok_t h c20
    have ho := Option.some.inj h
    subst ho
    exact z_rtv C0 hw d_Mo_string_244
set_option maxHeartbeats 4000000 in
set_option maxRecDepth 100000 in
theorem w_Mo_string_214 {p : Program} {l : Launch} {e : Env} {s : State} {m : MethodId} {args : Array Value} {below : List Frame} {meth : Method} {c : Code} {D : va_G} {A : Nat → Prop} {ad : Nat → Nat} {ca : Nat → ClassId} (o : z_Sg) (C0 : z_cx z_RMo b_Mo_string 11 none D (z_Mt ca) A p s m args meth c) (q : z_Sg) (x4 : Int32) (x5 : Int32) (x8 : Int64) (t1 : Int32) (t2 : Int64) (t3 : Int64) (h : k_Mo_string_214 x4 x5 x8 t1 t2 t3 q = some o) : ∀ (H : Heap) (locs : List Loc) (ls : Array Slot), z_wd D (z_M ad ca q) A s H locs → lv_has ls 11 [(0, .ref (ad 0)), (4, .int x4), (5, .int x5), (8, .long x8)] → W p l e (z_rm 5 131) s m args below meth c H locs 0 0 (z_qv below D (z_Mt ca) (z_M ad ca o) A s args) (F0 m 214 ls [.long t3, .long t2, .int t1, .ref (ad 2)]) := by
  obtain ⟨hx, hb, hr, hlk, hml, hown, hts, hK, hA⟩ := id C0
  intro H locs ls hw hl
  refine lv_ladd hx hb d_Mo_string_214 ?_
  obtain ⟨b14, h⟩ := ok_g h
  refine asM_2 C0 hw b14 d_Mo_string_215 (fun H locs hw => ?_)
  obtain ⟨q15, eq15, h⟩ := ok_n h
  rw [← eq15] at hw
  refine lv_aload_n hx hb d_Mo_string_216 rfl (lv_at hl 0 rfl) ?_
  refine gfM_0_r C0 hw fl_Mo_14 d_Mo_string_217 ?_
  refine lv_bipush (v := (7 : Int32)) hx hb d_Mo_string_220 (by decide) ?_
  refine lv_dup2_11 hx hb d_Mo_string_222 rfl rfl ?_
  obtain ⟨b16, h⟩ := ok_g h
  refine alM_2 C0 hw b16 d_Mo_string_223 ?_
  refine lv_iload hx hb d_Mo_string_224 (lv_at hl 2 rfl) ?_
  refine lv_if_eq (tgt := 234) hx hb d_Mo_string_226 (by decide) (fun c17 => ?_) (fun c17 => ?_)
  · have h := ok_t h c17
    refine lv_lconst (v := (0 : Int64)) hx hb d_Mo_string_234 (by decide) ?_
    exact w_Mo_string_235 o C0 q15 x4 (7 : Int32) (z_gM q15 0 (7 : Int32).toNatClampNeg) (0 : Int64) h H locs ls hw (lv_sub hl [0, 1] rfl)
  · have h := ok_f h c17
    refine lv_lload hx hb d_Mo_string_229 (lv_at hl 3 rfl) ?_
    refine lv_goto (tgt := 235) hx hb d_Mo_string_231 (by decide) ?_
    exact w_Mo_string_235 o C0 q15 x4 (7 : Int32) (z_gM q15 0 (7 : Int32).toNatClampNeg) x8 h H locs ls hw (lv_sub hl [0, 1] rfl)
set_option maxHeartbeats 4000000 in
set_option maxRecDepth 100000 in
theorem w_Mo_string_194 {p : Program} {l : Launch} {e : Env} {s : State} {m : MethodId} {args : Array Value} {below : List Frame} {meth : Method} {c : Code} {D : va_G} {A : Nat → Prop} {ad : Nat → Nat} {ca : Nat → ClassId} (o : z_Sg) (C0 : z_cx z_RMo b_Mo_string 11 none D (z_Mt ca) A p s m args meth c) (q : z_Sg) (x3 : Int32) (x4 : Int32) (x5 : Int32) (t0 : Int64) (h : k_Mo_string_194 x3 x4 x5 t0 q = some o) : ∀ (H : Heap) (locs : List Loc) (ls : Array Slot), z_wd D (z_M ad ca q) A s H locs → lv_has ls 11 [(0, .ref (ad 0)), (3, .int x3), (4, .int x4), (5, .int x5)] → W p l e (z_rm 5 131) s m args below meth c H locs 0 0 (z_qv below D (z_Mt ca) (z_M ad ca o) A s args) (F0 m 194 ls [.long t0]) := by
  obtain ⟨hx, hb, hr, hlk, hml, hown, hts, hK, hA⟩ := id C0
  intro H locs ls hw hl
  refine lv_lstore (lv' := [(8, .long t0), (0, .ref (ad 0)), (3, .int x3), (4, .int x4), (5, .int x5)]) hx hb d_Mo_string_194 hl (by decide) rfl (fun ls hl => ?_)
  refine lv_aload_n hx hb d_Mo_string_196 rfl (lv_at hl 1 rfl) ?_
  refine gfM_0_r C0 hw fl_Mo_14 d_Mo_string_197 ?_
  refine lv_bipush (v := (6 : Int32)) hx hb d_Mo_string_200 (by decide) ?_
  refine lv_dup2_11 hx hb d_Mo_string_202 rfl rfl ?_
  obtain ⟨b12, h⟩ := ok_g h
  refine alM_2 C0 hw b12 d_Mo_string_203 ?_
  refine lv_iload_n hx hb d_Mo_string_204 rfl (lv_at hl 2 rfl) ?_
  refine lv_if_eq (tgt := 213) hx hb d_Mo_string_205 (by decide) (fun c13 => ?_) (fun c13 => ?_)
  · have h := ok_t h c13
    refine lv_lconst (v := (0 : Int64)) hx hb d_Mo_string_213 (by decide) ?_
    exact w_Mo_string_214 o C0 q x4 x5 t0 (6 : Int32) (z_gM q 0 (6 : Int32).toNatClampNeg) (0 : Int64) h H locs ls hw (lv_sub hl [1, 3, 4, 0] rfl)
  · have h := ok_f h c13
    refine lv_lload hx hb d_Mo_string_208 (lv_at hl 0 rfl) ?_
    refine lv_goto (tgt := 214) hx hb d_Mo_string_210 (by decide) ?_
    exact w_Mo_string_214 o C0 q x4 x5 t0 (6 : Int32) (z_gM q 0 (6 : Int32).toNatClampNeg) t0 h H locs ls hw (lv_sub hl [1, 3, 4, 0] rfl)
set_option maxHeartbeats 4000000 in
set_option maxRecDepth 100000 in
theorem w_Mo_string_177 {p : Program} {l : Launch} {e : Env} {s : State} {m : MethodId} {args : Array Value} {below : List Frame} {meth : Method} {c : Code} {D : va_G} {A : Nat → Prop} {ad : Nat → Nat} {ca : Nat → ClassId} (o : z_Sg) (C0 : z_cx z_RMo b_Mo_string 11 none D (z_Mt ca) A p s m args meth c) (q : z_Sg) (x2 : Int32) (x3 : Int32) (x4 : Int32) (x5 : Int32) (h : k_Mo_string_177 x2 x3 x4 x5 q = some o) : ∀ (H : Heap) (locs : List Loc) (ls : Array Slot), z_wd D (z_M ad ca q) A s H locs → lv_has ls 11 [(0, .ref (ad 0)), (2, .int x2), (3, .int x3), (4, .int x4), (5, .int x5)] → W p l e (z_rm 5 131) s m args below meth c H locs 0 0 (z_qv below D (z_Mt ca) (z_M ad ca o) A s args) (F0 m 177 ls []) := by
  obtain ⟨hx, hb, hr, hlk, hml, hown, hts, hK, hA⟩ := id C0
  intro H locs ls hw hl
  refine lv_aload_n hx hb d_Mo_string_177 rfl (lv_at hl 0 rfl) ?_
  refine gfM_0_flag C0 hw fl_Mo_21 d_Mo_string_178 ?_
  refine lv_iconst (v := (5 : Int32)) hx hb d_Mo_string_181 (by decide) ?_
  obtain ⟨b10, h⟩ := ok_g h
  refine alM_4 C0 hw b10 d_Mo_string_182 ?_
  refine lv_if_eq (tgt := 192) hx hb d_Mo_string_183 (by decide) (fun c11 => ?_) (fun c11 => ?_)
  · have h := ok_t h c11
    refine lv_iload_n hx hb d_Mo_string_192 rfl (lv_at hl 1 rfl) ?_
    refine lv_i2l hx hb d_Mo_string_193 rfl ?_
    exact w_Mo_string_194 o C0 q x3 x4 x5 (x2.toInt64) h H locs ls hw (lv_sub hl [0, 2, 3, 4] rfl)
  · have h := ok_f h c11
    refine lv_iload_n hx hb d_Mo_string_186 rfl (lv_at hl 1 rfl) ?_
    refine lv_ineg hx hb d_Mo_string_187 ?_
    refine lv_i2l hx hb d_Mo_string_188 rfl ?_
    refine lv_goto (tgt := 194) hx hb d_Mo_string_189 (by decide) ?_
    exact w_Mo_string_194 o C0 q x3 x4 x5 ((-x2).toInt64) h H locs ls hw (lv_sub hl [0, 2, 3, 4] rfl)
set_option maxHeartbeats 4000000 in
set_option maxRecDepth 100000 in
theorem w_Mo_string_107 {p : Program} {l : Launch} {e : Env} {s : State} {m : MethodId} {args : Array Value} {below : List Frame} {meth : Method} {c : Code} {D : va_G} {A : Nat → Prop} {ad : Nat → Nat} {ca : Nat → ClassId} (o : z_Sg) (C0 : z_cx z_RMo b_Mo_string 11 none D (z_Mt ca) A p s m args meth c) (q : z_Sg) (x2 : Int32) (x3 : Int32) (x4 : Int32) (x5 : Int32) (t0 : Int64) (h : k_Mo_string_107 x2 x3 x4 x5 t0 q = some o) : ∀ (H : Heap) (locs : List Loc) (ls : Array Slot), z_wd D (z_M ad ca q) A s H locs → lv_has ls 11 [(0, .ref (ad 0)), (2, .int x2), (3, .int x3), (4, .int x4), (5, .int x5)] → W p l e (z_rm 5 131) s m args below meth c H locs 0 0 (z_qv below D (z_Mt ca) (z_M ad ca o) A s args) (F0 m 107 ls [.long t0]) := by
  obtain ⟨hx, hb, hr, hlk, hml, hown, hts, hK, hA⟩ := id C0
  intro H locs ls hw hl
  refine lv_lstore (lv' := [(6, .long t0), (0, .ref (ad 0)), (2, .int x2), (3, .int x3), (4, .int x4), (5, .int x5)]) hx hb d_Mo_string_107 hl (by decide) rfl (fun ls hl => ?_)
  refine lv_iload hx hb d_Mo_string_109 (lv_at hl 4 rfl) ?_
  refine lv_if_eq (tgt := 140) hx hb d_Mo_string_111 (by decide) (fun c7 => ?_) (fun c7 => ?_)
  · have h := ok_t h c7
    refine lv_iload hx hb d_Mo_string_140 (lv_at hl 5 rfl) ?_
    refine lv_if_eq (tgt := 169) hx hb d_Mo_string_142 (by decide) (fun c8 => ?_) (fun c8 => ?_)
    · have h := ok_t h c8
      refine lv_aload_n hx hb d_Mo_string_169 rfl (lv_at hl 1 rfl) ?_
      refine lv_iconst (v := (0 : Int32)) hx hb d_Mo_string_170 (by decide) ?_
      refine lv_iload_n hx hb d_Mo_string_171 rfl (lv_at hl 2 rfl) ?_
      refine lv_lload hx hb d_Mo_string_172 (lv_at hl 0 rfl) ?_
      obtain ⟨r9, er9, h⟩ := ok_b h
      refine z_vv (rest := []) C0 hw (c_Mo_put8 (0 : Int32) x2 t0 q r9 er9) mw_Mo_put8 ml_Mo_189 0 rfl ⟨Nat.le_of_ble_eq_true rfl, Nat.le_of_ble_eq_true rfl⟩ ⟨Nat.le_refl 0, Nat.le_refl 0⟩ rfl hl.1 rfl (Nat.le_of_ble_eq_true rfl) d_Mo_string_174 (fun H locs hw => ?_)
      exact w_Mo_string_177 o C0 r9 x2 x3 x4 x5 h H locs ls hw (lv_sub hl [1, 2, 3, 4, 5] rfl)
    · have h := ok_f h c8
      refine lv_aload_n hx hb d_Mo_string_145 rfl (lv_at hl 1 rfl) ?_
      refine lv_aload_n hx hb d_Mo_string_146 rfl (lv_at hl 1 rfl) ?_
      refine gfM_0_r C0 hw fl_Mo_14 d_Mo_string_147 ?_
      refine lv_bipush (v := (7 : Int32)) hx hb d_Mo_string_150 (by decide) ?_
      obtain ⟨b32, h⟩ := ok_g h
      refine alM_2 C0 hw b32 d_Mo_string_152 ?_
      refine lv_iload_n hx hb d_Mo_string_153 rfl (lv_at hl 2 rfl) ?_
      refine lv_iconst (v := (1 : Int32)) hx hb d_Mo_string_154 (by decide) ?_
      refine lv_iconst (v := (0 : Int32)) hx hb d_Mo_string_155 (by decide) ?_
      obtain ⟨r33, er33, h⟩ := ok_b h
      refine z_vv (rest := []) C0 hw (c_Mo_lookUp (z_gM q 0 (7 : Int32).toNatClampNeg) x2 (1 : Int32) (0 : Int32) q r33 er33) mw_Mo_lookUp ml_Mo_95 0 rfl ⟨Nat.le_of_ble_eq_true rfl, Nat.le_of_ble_eq_true rfl⟩ ⟨Nat.le_refl 0, Nat.le_refl 0⟩ rfl hl.1 rfl (Nat.le_of_ble_eq_true rfl) d_Mo_string_156 (fun H locs hw => ?_)
      refine lv_aload_n hx hb d_Mo_string_159 rfl (lv_at hl 1 rfl) ?_
      refine lv_lload hx hb d_Mo_string_160 (lv_at hl 0 rfl) ?_
      refine lv_iload_n hx hb d_Mo_string_162 rfl (lv_at hl 2 rfl) ?_
      obtain ⟨r34, er34, h⟩ := ok_b h
      refine z_vv (rest := []) C0 hw (c_Mo_hold t0 x2 r33 r34 er34) mw_Mo_hold ml_Mo_201 0 rfl ⟨Nat.le_of_ble_eq_true rfl, Nat.le_of_ble_eq_true rfl⟩ ⟨Nat.le_refl 0, Nat.le_refl 0⟩ rfl hl.1 rfl (Nat.le_of_ble_eq_true rfl) d_Mo_string_163 (fun H locs hw => ?_)
      refine lv_goto (tgt := 177) hx hb d_Mo_string_166 (by decide) ?_
      exact w_Mo_string_177 o C0 r34 x2 x3 x4 x5 h H locs ls hw (lv_sub hl [1, 2, 3, 4, 5] rfl)
  · have h := ok_f h c7
    refine lv_aload_n hx hb d_Mo_string_114 rfl (lv_at hl 1 rfl) ?_
    refine lv_lload hx hb d_Mo_string_115 (lv_at hl 0 rfl) ?_
    refine lv_aload_n hx hb d_Mo_string_117 rfl (lv_at hl 1 rfl) ?_
    refine lv_aload_n hx hb d_Mo_string_118 rfl (lv_at hl 1 rfl) ?_
    refine gfM_0_r C0 hw fl_Mo_14 d_Mo_string_119 ?_
    refine lv_bipush (v := (7 : Int32)) hx hb d_Mo_string_122 (by decide) ?_
    obtain ⟨b35, h⟩ := ok_g h
    refine alM_2 C0 hw b35 d_Mo_string_124 ?_
    refine lv_iload_n hx hb d_Mo_string_125 rfl (lv_at hl 2 rfl) ?_
    refine lv_iconst (v := (0 : Int32)) hx hb d_Mo_string_126 (by decide) ?_
    obtain ⟨r36, er36, h⟩ := ok_b h
    refine z_vl (rest := [.long t0, .ref (ad 0)]) C0 hw (c_Mo_load (z_gM q 0 (7 : Int32).toNatClampNeg) x2 (0 : Int32) q r36 er36) mw_Mo_load ml_Mo_434 0 rfl ⟨Nat.le_of_ble_eq_true rfl, Nat.le_of_ble_eq_true rfl⟩ ⟨Nat.le_refl 0, Nat.le_refl 0⟩ rfl hl.1 rfl (Nat.le_of_ble_eq_true rfl) d_Mo_string_127 (fun H locs hw => ?_)
    refine lv_iconst (v := (0 : Int32)) hx hb d_Mo_string_130 (by decide) ?_
    refine lv_iconst (v := (1 : Int32)) hx hb d_Mo_string_131 (by decide) ?_
    refine lv_iload_n hx hb d_Mo_string_132 rfl (lv_at hl 2 rfl) ?_
    obtain ⟨r37, er37, h⟩ := ok_b h
    refine z_vl (rest := []) C0 hw (c_Mo_add t0 r36.1 (0 : Int32) (1 : Int32) x2 r36.2 r37 er37) mw_Mo_add ml_Mo_225 0 rfl ⟨Nat.le_of_ble_eq_true rfl, Nat.le_of_ble_eq_true rfl⟩ ⟨Nat.le_refl 0, Nat.le_refl 0⟩ rfl hl.1 rfl (Nat.le_of_ble_eq_true rfl) d_Mo_string_133 (fun H locs hw => ?_)
    refine lv_pop2_2 hx hb d_Mo_string_136 rfl ?_
    refine lv_goto (tgt := 177) hx hb d_Mo_string_137 (by decide) ?_
    exact w_Mo_string_177 o C0 r37.2 x2 x3 x4 x5 h H locs ls hw (lv_sub hl [1, 2, 3, 4, 5] rfl)
set_option maxHeartbeats 4000000 in
set_option maxRecDepth 100000 in
theorem w_Mo_string_79 {p : Program} {l : Launch} {e : Env} {s : State} {m : MethodId} {args : Array Value} {below : List Frame} {meth : Method} {c : Code} {D : va_G} {A : Nat → Prop} {ad : Nat → Nat} {ca : Nat → ClassId} (o : z_Sg) (C0 : z_cx z_RMo b_Mo_string 11 none D (z_Mt ca) A p s m args meth c) (q : z_Sg) (x2 : Int32) (x3 : Int32) (x4 : Int32) (t0 : Int32) (h : k_Mo_string_79 x2 x3 x4 t0 q = some o) : ∀ (H : Heap) (locs : List Loc) (ls : Array Slot), z_wd D (z_M ad ca q) A s H locs → lv_has ls 11 [(0, .ref (ad 0)), (2, .int x2), (3, .int x3), (4, .int x4)] → W p l e (z_rm 5 131) s m args below meth c H locs 0 0 (z_qv below D (z_Mt ca) (z_M ad ca o) A s args) (F0 m 79 ls [.int t0]) := by
  obtain ⟨hx, hb, hr, hlk, hml, hown, hts, hK, hA⟩ := id C0
  intro H locs ls hw hl
  refine lv_istore (lv' := [(5, .int t0), (0, .ref (ad 0)), (2, .int x2), (3, .int x3), (4, .int x4)]) hx hb d_Mo_string_79 hl (by decide) rfl (fun ls hl => ?_)
  refine lv_iload_n hx hb d_Mo_string_81 rfl (lv_at hl 3 rfl) ?_
  refine lv_if_eq (tgt := 101) hx hb d_Mo_string_82 (by decide) (fun c5 => ?_) (fun c5 => ?_)
  · have h := ok_t h c5
    refine lv_aload_n hx hb d_Mo_string_101 rfl (lv_at hl 1 rfl) ?_
    refine lv_iconst (v := (0 : Int32)) hx hb d_Mo_string_102 (by decide) ?_
    refine lv_iload_n hx hb d_Mo_string_103 rfl (lv_at hl 2 rfl) ?_
    obtain ⟨r6, er6, h⟩ := ok_b h
    refine z_vl (rest := []) C0 hw (c_Mo_get8 (0 : Int32) x2 q r6 er6) mw_Mo_get8 ml_Mo_185 0 rfl ⟨Nat.le_of_ble_eq_true rfl, Nat.le_of_ble_eq_true rfl⟩ ⟨Nat.le_refl 0, Nat.le_refl 0⟩ rfl hl.1 rfl (Nat.le_of_ble_eq_true rfl) d_Mo_string_104 (fun H locs hw => ?_)
    exact w_Mo_string_107 o C0 q x2 x3 x4 t0 r6 h H locs ls hw (lv_sub hl [1, 2, 3, 4, 0] rfl)
  · have h := ok_f h c5
    refine lv_aload_n hx hb d_Mo_string_85 rfl (lv_at hl 1 rfl) ?_
    refine lv_aload_n hx hb d_Mo_string_86 rfl (lv_at hl 1 rfl) ?_
    refine gfM_0_r C0 hw fl_Mo_14 d_Mo_string_87 ?_
    refine lv_bipush (v := (6 : Int32)) hx hb d_Mo_string_90 (by decide) ?_
    obtain ⟨b38, h⟩ := ok_g h
    refine alM_2 C0 hw b38 d_Mo_string_92 ?_
    refine lv_iload_n hx hb d_Mo_string_93 rfl (lv_at hl 2 rfl) ?_
    refine lv_iconst (v := (0 : Int32)) hx hb d_Mo_string_94 (by decide) ?_
    obtain ⟨r39, er39, h⟩ := ok_b h
    refine z_vl (rest := []) C0 hw (c_Mo_load (z_gM q 0 (6 : Int32).toNatClampNeg) x2 (0 : Int32) q r39 er39) mw_Mo_load ml_Mo_434 0 rfl ⟨Nat.le_of_ble_eq_true rfl, Nat.le_of_ble_eq_true rfl⟩ ⟨Nat.le_refl 0, Nat.le_refl 0⟩ rfl hl.1 rfl (Nat.le_of_ble_eq_true rfl) d_Mo_string_95 (fun H locs hw => ?_)
    refine lv_goto (tgt := 107) hx hb d_Mo_string_98 (by decide) ?_
    exact w_Mo_string_107 o C0 r39.2 x2 x3 x4 t0 r39.1 h H locs ls hw (lv_sub hl [1, 2, 3, 4, 0] rfl)
set_option maxHeartbeats 4000000 in
set_option maxRecDepth 100000 in
theorem w_Mo_string_65 {p : Program} {l : Launch} {e : Env} {s : State} {m : MethodId} {args : Array Value} {below : List Frame} {meth : Method} {c : Code} {D : va_G} {A : Nat → Prop} {ad : Nat → Nat} {ca : Nat → ClassId} (o : z_Sg) (C0 : z_cx z_RMo b_Mo_string 11 none D (z_Mt ca) A p s m args meth c) (q : z_Sg) (x1 : Int32) (x2 : Int32) (x3 : Int32) (t0 : Int32) (h : k_Mo_string_65 x1 x2 x3 t0 q = some o) : ∀ (H : Heap) (locs : List Loc) (ls : Array Slot), z_wd D (z_M ad ca q) A s H locs → lv_has ls 11 [(0, .ref (ad 0)), (1, .int x1), (2, .int x2), (3, .int x3)] → W p l e (z_rm 5 131) s m args below meth c H locs 0 0 (z_qv below D (z_Mt ca) (z_M ad ca o) A s args) (F0 m 65 ls [.int t0]) := by
  obtain ⟨hx, hb, hr, hlk, hml, hown, hts, hK, hA⟩ := id C0
  intro H locs ls hw hl
  refine lv_istore (lv' := [(4, .int t0), (0, .ref (ad 0)), (1, .int x1), (2, .int x2), (3, .int x3)]) hx hb d_Mo_string_65 hl (by decide) rfl (fun ls hl => ?_)
  refine lv_iload_n hx hb d_Mo_string_67 rfl (lv_at hl 2 rfl) ?_
  refine lv_sipush (v := (172 : Int32)) hx hb d_Mo_string_68 (by decide) ?_
  refine lv_icmp_eq (tgt := 78) hx hb d_Mo_string_71 (by decide) (fun c4 => ?_) (fun c4 => ?_)
  · have h := ok_t h c4
    refine lv_iconst (v := (0 : Int32)) hx hb d_Mo_string_78 (by decide) ?_
    exact w_Mo_string_79 o C0 q x2 x3 t0 (0 : Int32) h H locs ls hw (lv_sub hl [1, 3, 4, 0] rfl)
  · have h := ok_f h c4
    refine lv_iconst (v := (1 : Int32)) hx hb d_Mo_string_74 (by decide) ?_
    refine lv_goto (tgt := 79) hx hb d_Mo_string_75 (by decide) ?_
    exact w_Mo_string_79 o C0 q x2 x3 t0 (1 : Int32) h H locs ls hw (lv_sub hl [1, 3, 4, 0] rfl)
set_option maxHeartbeats 4000000 in
set_option maxRecDepth 100000 in
theorem w_Mo_string_60 {p : Program} {l : Launch} {e : Env} {s : State} {m : MethodId} {args : Array Value} {below : List Frame} {meth : Method} {c : Code} {D : va_G} {A : Nat → Prop} {ad : Nat → Nat} {ca : Nat → ClassId} (o : z_Sg) (C0 : z_cx z_RMo b_Mo_string 11 none D (z_Mt ca) A p s m args meth c) (q : z_Sg) (x1 : Int32) (x2 : Int32) (x3 : Int32) (h : k_Mo_string_60 x1 x2 x3 q = some o) : ∀ (H : Heap) (locs : List Loc) (ls : Array Slot), z_wd D (z_M ad ca q) A s H locs → lv_has ls 11 [(0, .ref (ad 0)), (1, .int x1), (2, .int x2), (3, .int x3)] → W p l e (z_rm 5 131) s m args below meth c H locs 0 0 (z_qv below D (z_Mt ca) (z_M ad ca o) A s args) (F0 m 60 ls []) := by
  obtain ⟨hx, hb, hr, hlk, hml, hown, hts, hK, hA⟩ := id C0
  intro H locs ls hw hl
  refine lv_iconst (v := (1 : Int32)) hx hb d_Mo_string_60 (by decide) ?_
  refine lv_goto (tgt := 65) hx hb d_Mo_string_61 (by decide) ?_
  exact w_Mo_string_65 o C0 q x1 x2 x3 (1 : Int32) h H locs ls hw (lv_sub hl [0, 1, 2, 3] rfl)
set_option maxHeartbeats 4000000 in
set_option maxRecDepth 100000 in
theorem w_Mo_string_45 {p : Program} {l : Launch} {e : Env} {s : State} {m : MethodId} {args : Array Value} {below : List Frame} {meth : Method} {c : Code} {D : va_G} {A : Nat → Prop} {ad : Nat → Nat} {ca : Nat → ClassId} (o : z_Sg) (C0 : z_cx z_RMo b_Mo_string 11 none D (z_Mt ca) A p s m args meth c) (q : z_Sg) (x1 : Int32) (x2 : Int32) (t0 : Int32) (h : k_Mo_string_45 x1 x2 t0 q = some o) : ∀ (H : Heap) (locs : List Loc) (ls : Array Slot), z_wd D (z_M ad ca q) A s H locs → lv_has ls 11 [(0, .ref (ad 0)), (1, .int x1), (2, .int x2)] → W p l e (z_rm 5 131) s m args below meth c H locs 0 0 (z_qv below D (z_Mt ca) (z_M ad ca o) A s args) (F0 m 45 ls [.int t0]) := by
  obtain ⟨hx, hb, hr, hlk, hml, hown, hts, hK, hA⟩ := id C0
  intro H locs ls hw hl
  refine lv_istore_n (lv' := [(3, .int t0), (0, .ref (ad 0)), (1, .int x1), (2, .int x2)]) hx hb d_Mo_string_45 rfl hl (by decide) rfl (fun ls hl => ?_)
  refine lv_iload_n hx hb d_Mo_string_46 rfl (lv_at hl 2 rfl) ?_
  refine lv_sipush (v := (166 : Int32)) hx hb d_Mo_string_47 (by decide) ?_
  refine lv_icmp_eq (tgt := 60) hx hb d_Mo_string_50 (by decide) (fun c3 => ?_) (fun c3 => ?_)
  · have h := ok_t h c3
    exact w_Mo_string_60 o C0 q x1 x2 t0 h H locs ls hw (lv_sub hl [1, 2, 3, 0] rfl)
  · have h := ok_f h c3
    refine lv_iload_n hx hb d_Mo_string_53 rfl (lv_at hl 2 rfl) ?_
    refine lv_sipush (v := (174 : Int32)) hx hb d_Mo_string_54 (by decide) ?_
    refine lv_icmp_ne (tgt := 64) hx hb d_Mo_string_57 (by decide) (fun c40 => ?_) (fun c40 => ?_)
    · have h := ok_f h c40
      refine lv_iconst (v := (0 : Int32)) hx hb d_Mo_string_64 (by decide) ?_
      exact w_Mo_string_65 o C0 q x1 x2 t0 (0 : Int32) h H locs ls hw (lv_sub hl [1, 2, 3, 0] rfl)
    · have h := ok_t h c40
      exact w_Mo_string_60 o C0 q x1 x2 t0 h H locs ls hw (lv_sub hl [1, 2, 3, 0] rfl)
set_option maxHeartbeats 4000000 in
set_option maxRecDepth 100000 in
theorem w_Mo_string_40 {p : Program} {l : Launch} {e : Env} {s : State} {m : MethodId} {args : Array Value} {below : List Frame} {meth : Method} {c : Code} {D : va_G} {A : Nat → Prop} {ad : Nat → Nat} {ca : Nat → ClassId} (o : z_Sg) (C0 : z_cx z_RMo b_Mo_string 11 none D (z_Mt ca) A p s m args meth c) (q : z_Sg) (x1 : Int32) (x2 : Int32) (h : k_Mo_string_40 x1 x2 q = some o) : ∀ (H : Heap) (locs : List Loc) (ls : Array Slot), z_wd D (z_M ad ca q) A s H locs → lv_has ls 11 [(0, .ref (ad 0)), (1, .int x1), (2, .int x2)] → W p l e (z_rm 5 131) s m args below meth c H locs 0 0 (z_qv below D (z_Mt ca) (z_M ad ca o) A s args) (F0 m 40 ls []) := by
  obtain ⟨hx, hb, hr, hlk, hml, hown, hts, hK, hA⟩ := id C0
  intro H locs ls hw hl
  refine lv_iconst (v := (1 : Int32)) hx hb d_Mo_string_40 (by decide) ?_
  refine lv_goto (tgt := 45) hx hb d_Mo_string_41 (by decide) ?_
  exact w_Mo_string_45 o C0 q x1 x2 (1 : Int32) h H locs ls hw (lv_sub hl [0, 1, 2] rfl)
set_option maxHeartbeats 4000000 in
set_option maxRecDepth 100000 in
theorem w_Mo_string_19 {p : Program} {l : Launch} {e : Env} {s : State} {m : MethodId} {args : Array Value} {below : List Frame} {meth : Method} {c : Code} {D : va_G} {A : Nat → Prop} {ad : Nat → Nat} {ca : Nat → ClassId} (o : z_Sg) (C0 : z_cx z_RMo b_Mo_string 11 none D (z_Mt ca) A p s m args meth c) (q : z_Sg) (x1 : Int32) (x2 : Int32) (h : k_Mo_string_19 x1 x2 q = some o) : ∀ (H : Heap) (locs : List Loc) (ls : Array Slot), z_wd D (z_M ad ca q) A s H locs → lv_has ls 11 [(0, .ref (ad 0)), (1, .int x1), (2, .int x2)] → W p l e (z_rm 5 131) s m args below meth c H locs 0 0 (z_qv below D (z_Mt ca) (z_M ad ca o) A s args) (F0 m 19 ls []) := by
  obtain ⟨hx, hb, hr, hlk, hml, hown, hts, hK, hA⟩ := id C0
  intro H locs ls hw hl
  refine lv_iload_n hx hb d_Mo_string_19 rfl (lv_at hl 1 rfl) ?_
  refine lv_sipush (v := (164 : Int32)) hx hb d_Mo_string_20 (by decide) ?_
  refine lv_icmp_eq (tgt := 40) hx hb d_Mo_string_23 (by decide) (fun c2 => ?_) (fun c2 => ?_)
  · have h := ok_t h c2
    exact w_Mo_string_40 o C0 q x1 x2 h H locs ls hw (lv_sub hl [0, 1, 2] rfl)
  · have h := ok_f h c2
    refine lv_iload_n hx hb d_Mo_string_26 rfl (lv_at hl 1 rfl) ?_
    refine lv_sipush (v := (166 : Int32)) hx hb d_Mo_string_27 (by decide) ?_
    refine lv_icmp_eq (tgt := 40) hx hb d_Mo_string_30 (by decide) (fun c41 => ?_) (fun c41 => ?_)
    · have h := ok_t h c41
      exact w_Mo_string_40 o C0 q x1 x2 h H locs ls hw (lv_sub hl [0, 1, 2] rfl)
    · have h := ok_f h c41
      refine lv_iload_n hx hb d_Mo_string_33 rfl (lv_at hl 1 rfl) ?_
      refine lv_sipush (v := (172 : Int32)) hx hb d_Mo_string_34 (by decide) ?_
      refine lv_icmp_ne (tgt := 44) hx hb d_Mo_string_37 (by decide) (fun c42 => ?_) (fun c42 => ?_)
      · have h := ok_f h c42
        refine lv_iconst (v := (0 : Int32)) hx hb d_Mo_string_44 (by decide) ?_
        exact w_Mo_string_45 o C0 q x1 x2 (0 : Int32) h H locs ls hw (lv_sub hl [0, 1, 2] rfl)
      · have h := ok_t h c42
        exact w_Mo_string_40 o C0 q x1 x2 h H locs ls hw (lv_sub hl [0, 1, 2] rfl)
set_option maxHeartbeats 4000000 in
set_option maxRecDepth 100000 in
theorem c_Mo_string {l : Launch} {D : va_G} {ad : Nat → Nat} {ca : Nat → ClassId} (x1 : Int32) (x2 : Int32) (q : z_Sg) (o : z_Sg) (h : f_Mo_string x1 x2 q = some o) : z_cv l y_Mo_string b_Mo_string 11 none 5 131 D (z_Mt ca) (z_M ad ca q) (z_M ad ca o) [.ref (ad 0), .int x1, .int x2] := by
  refine z_cv_of (own := z_RMo) (by decide) rfl ?_
  intro p e s m below meth c A C0 hw
  obtain ⟨hx, hb, hr, hlk, hml, hown, hts, hK, hA⟩ := id C0
  generalize hH : s.heap = H at hw ⊢
  generalize hlo : ([] : List Loc) = locs at hw ⊢
  refine z_entry (lv := [(0, .ref (ad 0)), (1, .int x1), (2, .int x2)]) (Nat.le_of_ble_eq_true rfl) rfl (fun ls hl => ?_)
  unfold f_Mo_string at h
  refine lv_aload_n hx hb d_Mo_string_0 rfl (lv_at hl 0 rfl) ?_
  refine gfM_0_repeat C0 hw fl_Mo_124 d_Mo_string_1 ?_
  refine lv_if_eq (tgt := 19) hx hb d_Mo_string_4 (by decide) (fun c1 => ?_) (fun c1 => ?_)
  · have h := ok_t h c1
    exact w_Mo_string_19 o C0 q x1 x2 h H locs ls hw (lv_sub hl [0, 1, 2] rfl)
  · have h := ok_f h c1
    refine lv_aload_n hx hb d_Mo_string_7 rfl (lv_at hl 0 rfl) ?_
    refine gfM_0_r C0 hw fl_Mo_14 d_Mo_string_8 ?_
    refine lv_iconst (v := (1 : Int32)) hx hb d_Mo_string_11 (by decide) ?_
    obtain ⟨b43, h⟩ := ok_g h
    refine alM_2 C0 hw b43 d_Mo_string_12 ?_
    refine lv_lconst (v := (0 : Int64)) hx hb d_Mo_string_13 (by decide) ?_
    refine W.lcmp hx hb d_Mo_string_14 ?_
    refine lv_if_ne (tgt := 19) hx hb d_Mo_string_15 (by decide) (fun c44 => ?_) (fun c44 => ?_)
    · have h := ok_f h (fun z => c44 ((lg_cmp_eq _ _).mpr z))
      exact w_Mo_string_19 o C0 q x1 x2 h H locs ls hw (lv_sub hl [0, 1, 2] rfl)
    · have h := ok_t h ((lg_cmp_eq _ _).mp c44)
      have ho := Option.some.inj h
      subst ho
      exact z_rtv C0 hw d_Mo_string_18
def k_Mo_turn_120 (q : z_Sg) : Option z_Sg :=
  some q
def k_Mo_turn_74 (t1 : Int32) (t2 : Int32) (t3 : Int64) (q : z_Sg) : Option z_Sg :=
  (f_Mo_put8 t1 t2 t3 q).bind (fun r16 => k_Mo_turn_120 r16)
def f_Mo_turn (x1 : Int32) (q : z_Sg) : Option z_Sg :=
  (f_Mo_wide q).bind (fun r1 => (f_Mo_plus (1 : Int32) q).bind (fun r2 => z_nm (((x1 - x1 / (8 : Int32) * (8 : Int32)) + r2)) (fun n3 => if x1 = (152 : Int32) then (if z_bad (0 : Int32) 16 then none else ((f_Mo_extended (z_gM q 0 (0 : Int32).toNatClampNeg) (r1 / (2 : Int32)) q).bind (fun r18 => (f_Mo_put8 (0 : Int32) r1 r18 q).bind (fun r19 => k_Mo_turn_120 r19)))) else (if x1 = (153 : Int32) then (if z_bad (0 : Int32) 16 then none else ((f_Mo_top (z_gM q 0 (0 : Int32).toNatClampNeg) r1 q).bind (fun r14 => if r14 = 0 then (k_Mo_turn_74 (2 : Int32) r1 (0 : Int64) q) else (k_Mo_turn_74 (2 : Int32) r1 (-1 : Int64) q)))) else (if n3 = 0 then (k_Mo_turn_120 q) else (if z_bad (0 : Int32) 16 then none else ((f_Mo_lowest (z_gM q 0 (0 : Int32).toNatClampNeg) r1 q).bind (fun r8 => if z_bad n3 16 then none else ((f_Mo_lowest (z_gM q 0 n3.toNatClampNeg) r1 q).bind (fun r10 => (f_Mo_put8 (0 : Int32) r1 r10 q).bind (fun r11 => (f_Mo_put8 n3 r1 r8 r11).bind (fun r12 => k_Mo_turn_120 r12))))))))))))
set_option maxHeartbeats 4000000 in
set_option maxRecDepth 100000 in
theorem w_Mo_turn_120 {p : Program} {l : Launch} {e : Env} {s : State} {m : MethodId} {args : Array Value} {below : List Frame} {meth : Method} {c : Code} {D : va_G} {A : Nat → Prop} {ad : Nat → Nat} {ca : Nat → ClassId} (o : z_Sg) (C0 : z_cx z_RMo b_Mo_turn 6 none D (z_Mt ca) A p s m args meth c) (q : z_Sg) (h : k_Mo_turn_120 q = some o) : ∀ (H : Heap) (locs : List Loc) (ls : Array Slot), z_wd D (z_M ad ca q) A s H locs → lv_has ls 6 [] → W p l e (z_rm 2 49) s m args below meth c H locs 0 0 (z_qv below D (z_Mt ca) (z_M ad ca o) A s args) (F0 m 120 ls []) := by
  obtain ⟨hx, hb, hr, hlk, hml, hown, hts, hK, hA⟩ := id C0
  intro H locs ls hw hl
  have ho := Option.some.inj h
  subst ho
  exact z_rtv C0 hw d_Mo_turn_120
set_option maxHeartbeats 4000000 in
set_option maxRecDepth 100000 in
theorem w_Mo_turn_74 {p : Program} {l : Launch} {e : Env} {s : State} {m : MethodId} {args : Array Value} {below : List Frame} {meth : Method} {c : Code} {D : va_G} {A : Nat → Prop} {ad : Nat → Nat} {ca : Nat → ClassId} (o : z_Sg) (C0 : z_cx z_RMo b_Mo_turn 6 none D (z_Mt ca) A p s m args meth c) (q : z_Sg) (t1 : Int32) (t2 : Int32) (t3 : Int64) (h : k_Mo_turn_74 t1 t2 t3 q = some o) : ∀ (H : Heap) (locs : List Loc) (ls : Array Slot), z_wd D (z_M ad ca q) A s H locs → lv_has ls 6 [] → W p l e (z_rm 2 49) s m args below meth c H locs 0 0 (z_qv below D (z_Mt ca) (z_M ad ca o) A s args) (F0 m 74 ls [.long t3, .int t2, .int t1, .ref (ad 0)]) := by
  obtain ⟨hx, hb, hr, hlk, hml, hown, hts, hK, hA⟩ := id C0
  intro H locs ls hw hl
  obtain ⟨r16, er16, h⟩ := ok_b h
  refine z_vv (rest := []) C0 hw (c_Mo_put8 t1 t2 t3 q r16 er16) mw_Mo_put8 ml_Mo_189 0 rfl ⟨Nat.le_of_ble_eq_true rfl, Nat.le_of_ble_eq_true rfl⟩ ⟨Nat.le_refl 0, Nat.le_refl 0⟩ rfl hl.1 rfl (Nat.le_of_ble_eq_true rfl) d_Mo_turn_74 (fun H locs hw => ?_)
  refine lv_goto (tgt := 120) hx hb d_Mo_turn_77 (by decide) ?_
  exact w_Mo_turn_120 o C0 r16 h H locs ls hw (lv_sub hl [] rfl)
set_option maxHeartbeats 4000000 in
set_option maxRecDepth 100000 in
theorem c_Mo_turn {l : Launch} {D : va_G} {ad : Nat → Nat} {ca : Nat → ClassId} (x1 : Int32) (q : z_Sg) (o : z_Sg) (h : f_Mo_turn x1 q = some o) : z_cv l y_Mo_turn b_Mo_turn 6 none 2 49 D (z_Mt ca) (z_M ad ca q) (z_M ad ca o) [.ref (ad 0), .int x1] := by
  refine z_cv_of (own := z_RMo) (by decide) rfl ?_
  intro p e s m below meth c A C0 hw
  obtain ⟨hx, hb, hr, hlk, hml, hown, hts, hK, hA⟩ := id C0
  generalize hH : s.heap = H at hw ⊢
  generalize hlo : ([] : List Loc) = locs at hw ⊢
  refine z_entry (lv := [(0, .ref (ad 0)), (1, .int x1)]) (Nat.le_of_ble_eq_true rfl) rfl (fun ls hl => ?_)
  unfold f_Mo_turn at h
  refine lv_aload_n hx hb d_Mo_turn_0 rfl (lv_at hl 0 rfl) ?_
  obtain ⟨r1, er1, h⟩ := ok_b h
  refine z_vi (rest := []) C0 hw (c_Mo_wide q r1 er1) mw_Mo_wide ml_Mo_235 0 rfl ⟨Nat.le_of_ble_eq_true rfl, Nat.le_of_ble_eq_true rfl⟩ ⟨Nat.le_refl 0, Nat.le_refl 0⟩ rfl hl.1 rfl (Nat.le_of_ble_eq_true rfl) d_Mo_turn_1 (fun H locs hw => ?_)
  refine lv_istore_n (lv' := [(2, .int r1), (0, .ref (ad 0)), (1, .int x1)]) hx hb d_Mo_turn_4 rfl hl (by decide) rfl (fun ls hl => ?_)
  refine lv_iload_n hx hb d_Mo_turn_5 rfl (lv_at hl 2 rfl) ?_
  refine lv_bipush (v := (8 : Int32)) hx hb d_Mo_turn_6 (by decide) ?_
  refine lv_irem hx hb d_Mo_turn_8 (by decide) ?_
  refine lv_aload_n hx hb d_Mo_turn_9 rfl (lv_at hl 1 rfl) ?_
  refine lv_iconst (v := (1 : Int32)) hx hb d_Mo_turn_10 (by decide) ?_
  obtain ⟨r2, er2, h⟩ := ok_b h
  refine z_vi (rest := [.int (x1 - x1 / (8 : Int32) * (8 : Int32))]) C0 hw (c_Mo_plus (1 : Int32) q r2 er2) mw_Mo_plus ml_Mo_157 0 rfl ⟨Nat.le_of_ble_eq_true rfl, Nat.le_of_ble_eq_true rfl⟩ ⟨Nat.le_refl 0, Nat.le_refl 0⟩ rfl hl.1 rfl (Nat.le_of_ble_eq_true rfl) d_Mo_turn_11 (fun H locs hw => ?_)
  refine lv_iadd hx hb d_Mo_turn_14 ?_
  obtain ⟨n3, en3, h⟩ := ok_n h
  refine z_ti en3 ?_
  refine lv_istore_n (lv' := [(3, .int n3), (2, .int r1), (0, .ref (ad 0)), (1, .int x1)]) hx hb d_Mo_turn_15 rfl hl (by decide) rfl (fun ls hl => ?_)
  refine lv_iload_n hx hb d_Mo_turn_16 rfl (lv_at hl 3 rfl) ?_
  refine lv_sipush (v := (152 : Int32)) hx hb d_Mo_turn_17 (by decide) ?_
  refine lv_icmp_ne (tgt := 44) hx hb d_Mo_turn_20 (by decide) (fun c4 => ?_) (fun c4 => ?_)
  · have h := ok_f h c4
    refine lv_iload_n hx hb d_Mo_turn_44 rfl (lv_at hl 3 rfl) ?_
    refine lv_sipush (v := (153 : Int32)) hx hb d_Mo_turn_45 (by decide) ?_
    refine lv_icmp_ne (tgt := 80) hx hb d_Mo_turn_48 (by decide) (fun c5 => ?_) (fun c5 => ?_)
    · have h := ok_f h c5
      refine lv_iload_n hx hb d_Mo_turn_80 rfl (lv_at hl 0 rfl) ?_
      refine lv_if_eq (tgt := 120) hx hb d_Mo_turn_81 (by decide) (fun c6 => ?_) (fun c6 => ?_)
      · have h := ok_t h c6
        exact w_Mo_turn_120 o C0 q h H locs ls hw (lv_sub hl [] rfl)
      · have h := ok_f h c6
        refine lv_aload_n hx hb d_Mo_turn_84 rfl (lv_at hl 2 rfl) ?_
        refine gfM_0_r C0 hw fl_Mo_14 d_Mo_turn_85 ?_
        refine lv_iconst (v := (0 : Int32)) hx hb d_Mo_turn_88 (by decide) ?_
        obtain ⟨b7, h⟩ := ok_g h
        refine alM_2 C0 hw b7 d_Mo_turn_89 ?_
        refine lv_iload_n hx hb d_Mo_turn_90 rfl (lv_at hl 1 rfl) ?_
        obtain ⟨r8, er8, h⟩ := ok_b h
        refine z_sl (rest := []) C0 hw (c_Mo_lowest (z_gM q 0 (0 : Int32).toNatClampNeg) r1 q r8 er8) mw_Mo_lowest ml_Mo_180 ⟨Nat.le_of_ble_eq_true rfl, Nat.le_of_ble_eq_true rfl⟩ ⟨Nat.le_refl 0, Nat.le_refl 0⟩ rfl hl.1 rfl (Nat.le_of_ble_eq_true rfl) d_Mo_turn_91 (fun H locs hw => ?_)
        refine lv_lstore (lv' := [(4, .long r8), (3, .int n3), (2, .int r1), (0, .ref (ad 0)), (1, .int x1)]) hx hb d_Mo_turn_94 hl (by decide) rfl (fun ls hl => ?_)
        refine lv_aload_n hx hb d_Mo_turn_96 rfl (lv_at hl 3 rfl) ?_
        refine lv_iconst (v := (0 : Int32)) hx hb d_Mo_turn_97 (by decide) ?_
        refine lv_iload_n hx hb d_Mo_turn_98 rfl (lv_at hl 2 rfl) ?_
        refine lv_aload_n hx hb d_Mo_turn_99 rfl (lv_at hl 3 rfl) ?_
        refine gfM_0_r C0 hw fl_Mo_14 d_Mo_turn_100 ?_
        refine lv_iload_n hx hb d_Mo_turn_103 rfl (lv_at hl 1 rfl) ?_
        obtain ⟨b9, h⟩ := ok_g h
        refine alM_2 C0 hw b9 d_Mo_turn_104 ?_
        refine lv_iload_n hx hb d_Mo_turn_105 rfl (lv_at hl 2 rfl) ?_
        obtain ⟨r10, er10, h⟩ := ok_b h
        refine z_sl (rest := [.int r1, .int (0 : Int32), .ref (ad 0)]) C0 hw (c_Mo_lowest (z_gM q 0 n3.toNatClampNeg) r1 q r10 er10) mw_Mo_lowest ml_Mo_180 ⟨Nat.le_of_ble_eq_true rfl, Nat.le_of_ble_eq_true rfl⟩ ⟨Nat.le_refl 0, Nat.le_refl 0⟩ rfl hl.1 rfl (Nat.le_of_ble_eq_true rfl) d_Mo_turn_106 (fun H locs hw => ?_)
        obtain ⟨r11, er11, h⟩ := ok_b h
        refine z_vv (rest := []) C0 hw (c_Mo_put8 (0 : Int32) r1 r10 q r11 er11) mw_Mo_put8 ml_Mo_189 0 rfl ⟨Nat.le_of_ble_eq_true rfl, Nat.le_of_ble_eq_true rfl⟩ ⟨Nat.le_refl 0, Nat.le_refl 0⟩ rfl hl.1 rfl (Nat.le_of_ble_eq_true rfl) d_Mo_turn_109 (fun H locs hw => ?_)
        refine lv_aload_n hx hb d_Mo_turn_112 rfl (lv_at hl 3 rfl) ?_
        refine lv_iload_n hx hb d_Mo_turn_113 rfl (lv_at hl 1 rfl) ?_
        refine lv_iload_n hx hb d_Mo_turn_114 rfl (lv_at hl 2 rfl) ?_
        refine lv_lload hx hb d_Mo_turn_115 (lv_at hl 0 rfl) ?_
        obtain ⟨r12, er12, h⟩ := ok_b h
        refine z_vv (rest := []) C0 hw (c_Mo_put8 n3 r1 r8 r11 r12 er12) mw_Mo_put8 ml_Mo_189 0 rfl ⟨Nat.le_of_ble_eq_true rfl, Nat.le_of_ble_eq_true rfl⟩ ⟨Nat.le_refl 0, Nat.le_refl 0⟩ rfl hl.1 rfl (Nat.le_of_ble_eq_true rfl) d_Mo_turn_117 (fun H locs hw => ?_)
        exact w_Mo_turn_120 o C0 r12 h H locs ls hw (lv_sub hl [] rfl)
    · have h := ok_t h c5
      refine lv_aload_n hx hb d_Mo_turn_51 rfl (lv_at hl 2 rfl) ?_
      refine lv_iconst (v := (2 : Int32)) hx hb d_Mo_turn_52 (by decide) ?_
      refine lv_iload_n hx hb d_Mo_turn_53 rfl (lv_at hl 1 rfl) ?_
      refine lv_aload_n hx hb d_Mo_turn_54 rfl (lv_at hl 2 rfl) ?_
      refine gfM_0_r C0 hw fl_Mo_14 d_Mo_turn_55 ?_
      refine lv_iconst (v := (0 : Int32)) hx hb d_Mo_turn_58 (by decide) ?_
      obtain ⟨b13, h⟩ := ok_g h
      refine alM_2 C0 hw b13 d_Mo_turn_59 ?_
      refine lv_iload_n hx hb d_Mo_turn_60 rfl (lv_at hl 1 rfl) ?_
      obtain ⟨r14, er14, h⟩ := ok_b h
      refine z_si (rest := [.int r1, .int (2 : Int32), .ref (ad 0)]) C0 hw (c_Mo_top (z_gM q 0 (0 : Int32).toNatClampNeg) r1 q r14 er14) mw_Mo_top ml_Mo_212 ⟨Nat.le_of_ble_eq_true rfl, Nat.le_of_ble_eq_true rfl⟩ ⟨Nat.le_refl 0, Nat.le_refl 0⟩ rfl hl.1 rfl (Nat.le_of_ble_eq_true rfl) d_Mo_turn_61 (fun H locs hw => ?_)
      refine lv_if_eq (tgt := 73) hx hb d_Mo_turn_64 (by decide) (fun c15 => ?_) (fun c15 => ?_)
      · have h := ok_t h c15
        refine lv_lconst (v := (0 : Int64)) hx hb d_Mo_turn_73 (by decide) ?_
        exact w_Mo_turn_74 o C0 q (2 : Int32) r1 (0 : Int64) h H locs ls hw (lv_sub hl [] rfl)
      · have h := ok_f h c15
        refine lv_ldc2 (own := z_RMo) hx hb hown (hts _ kl_Mo_71) d_Mo_turn_67 ?_
        refine lv_goto (tgt := 74) hx hb d_Mo_turn_70 (by decide) ?_
        exact w_Mo_turn_74 o C0 q (2 : Int32) r1 (-1 : Int64) h H locs ls hw (lv_sub hl [] rfl)
  · have h := ok_t h c4
    refine lv_aload_n hx hb d_Mo_turn_23 rfl (lv_at hl 2 rfl) ?_
    refine lv_iconst (v := (0 : Int32)) hx hb d_Mo_turn_24 (by decide) ?_
    refine lv_iload_n hx hb d_Mo_turn_25 rfl (lv_at hl 1 rfl) ?_
    refine lv_aload_n hx hb d_Mo_turn_26 rfl (lv_at hl 2 rfl) ?_
    refine gfM_0_r C0 hw fl_Mo_14 d_Mo_turn_27 ?_
    refine lv_iconst (v := (0 : Int32)) hx hb d_Mo_turn_30 (by decide) ?_
    obtain ⟨b17, h⟩ := ok_g h
    refine alM_2 C0 hw b17 d_Mo_turn_31 ?_
    refine lv_iload_n hx hb d_Mo_turn_32 rfl (lv_at hl 1 rfl) ?_
    refine lv_iconst (v := (2 : Int32)) hx hb d_Mo_turn_33 (by decide) ?_
    refine lv_idiv hx hb d_Mo_turn_34 (by decide) ?_
    obtain ⟨r18, er18, h⟩ := ok_b h
    refine z_sl (rest := [.int r1, .int (0 : Int32), .ref (ad 0)]) C0 hw (c_Mo_extended (z_gM q 0 (0 : Int32).toNatClampNeg) (r1 / (2 : Int32)) q r18 er18) mw_Mo_extended ml_Mo_118 ⟨Nat.le_of_ble_eq_true rfl, Nat.le_of_ble_eq_true rfl⟩ ⟨Nat.le_refl 0, Nat.le_refl 0⟩ rfl hl.1 rfl (Nat.le_of_ble_eq_true rfl) d_Mo_turn_35 (fun H locs hw => ?_)
    obtain ⟨r19, er19, h⟩ := ok_b h
    refine z_vv (rest := []) C0 hw (c_Mo_put8 (0 : Int32) r1 r18 q r19 er19) mw_Mo_put8 ml_Mo_189 0 rfl ⟨Nat.le_of_ble_eq_true rfl, Nat.le_of_ble_eq_true rfl⟩ ⟨Nat.le_refl 0, Nat.le_refl 0⟩ rfl hl.1 rfl (Nat.le_of_ble_eq_true rfl) d_Mo_turn_38 (fun H locs hw => ?_)
    refine lv_goto (tgt := 120) hx hb d_Mo_turn_41 (by decide) ?_
    exact w_Mo_turn_120 o C0 r19 h H locs ls hw (lv_sub hl [] rfl)
def k_Mo_move_99 (q : z_Sg) : Option z_Sg :=
  some q
def f_Mo_move (x1 : Int32) (x2 : Int32) (q : z_Sg) : Option z_Sg :=
  (f_Mo_takeOperand q).bind (fun r1 => (f_Mo_g x2 r1).bind (fun r2 => if (134 : Int32) ≤ x1 then (if (136 : Int32) ≤ x1 then (if (138 : Int32) ≤ x1 then ((f_Mo_e x2 (0 : Int32) r1).bind (fun r6 => (f_Mo_setG x2 r6.1 r6.2).bind (fun r7 => k_Mo_move_99 r7))) else ((f_Mo_e x2 (1 : Int32) r1).bind (fun r8 => (f_Mo_setE x2 r2 r8.2).bind (fun r9 => k_Mo_move_99 r9)))) else ((f_Mo_e x2 (1 : Int32) r1).bind (fun r10 => (f_Mo_setE x2 r2 r10.2).bind (fun r11 => (f_Mo_setG x2 r10.1 r11).bind (fun r12 => k_Mo_move_99 r12))))) else ((f_Mo_e x2 (0 : Int32) r1).bind (fun r13 => (f_Mo_logic (r13.1 &&& r2) x2 r13.2).bind (fun r14 => k_Mo_move_99 r14.2)))))
set_option maxHeartbeats 4000000 in
set_option maxRecDepth 100000 in
theorem w_Mo_move_99 {p : Program} {l : Launch} {e : Env} {s : State} {m : MethodId} {args : Array Value} {below : List Frame} {meth : Method} {c : Code} {D : va_G} {A : Nat → Prop} {ad : Nat → Nat} {ca : Nat → ClassId} (o : z_Sg) (C0 : z_cx z_RMo b_Mo_move 7 none D (z_Mt ca) A p s m args meth c) (q : z_Sg) (h : k_Mo_move_99 q = some o) : ∀ (H : Heap) (locs : List Loc) (ls : Array Slot), z_wd D (z_M ad ca q) A s H locs → lv_has ls 7 [] → W p l e (z_rm 8 193) s m args below meth c H locs 0 0 (z_qv below D (z_Mt ca) (z_M ad ca o) A s args) (F0 m 99 ls []) := by
  obtain ⟨hx, hb, hr, hlk, hml, hown, hts, hK, hA⟩ := id C0
  intro H locs ls hw hl
  have ho := Option.some.inj h
  subst ho
  exact z_rtv C0 hw d_Mo_move_99
set_option maxHeartbeats 4000000 in
set_option maxRecDepth 100000 in
theorem c_Mo_move {l : Launch} {D : va_G} {ad : Nat → Nat} {ca : Nat → ClassId} (x1 : Int32) (x2 : Int32) (q : z_Sg) (o : z_Sg) (h : f_Mo_move x1 x2 q = some o) : z_cv l y_Mo_move b_Mo_move 7 none 8 193 D (z_Mt ca) (z_M ad ca q) (z_M ad ca o) [.ref (ad 0), .int x1, .int x2] := by
  refine z_cv_of (own := z_RMo) (by decide) rfl ?_
  intro p e s m below meth c A C0 hw
  obtain ⟨hx, hb, hr, hlk, hml, hown, hts, hK, hA⟩ := id C0
  generalize hH : s.heap = H at hw ⊢
  generalize hlo : ([] : List Loc) = locs at hw ⊢
  refine z_entry (lv := [(0, .ref (ad 0)), (1, .int x1), (2, .int x2)]) (Nat.le_of_ble_eq_true rfl) rfl (fun ls hl => ?_)
  unfold f_Mo_move at h
  refine lv_aload_n hx hb d_Mo_move_0 rfl (lv_at hl 0 rfl) ?_
  obtain ⟨r1, er1, h⟩ := ok_b h
  refine z_vv (rest := []) C0 hw (c_Mo_takeOperand q r1 er1) mw_Mo_takeOperand ml_Mo_335 0 rfl ⟨Nat.le_of_ble_eq_true rfl, Nat.le_of_ble_eq_true rfl⟩ ⟨Nat.le_refl 0, Nat.le_refl 0⟩ rfl hl.1 rfl (Nat.le_of_ble_eq_true rfl) d_Mo_move_1 (fun H locs hw => ?_)
  refine lv_aload_n hx hb d_Mo_move_4 rfl (lv_at hl 0 rfl) ?_
  refine lv_iload_n hx hb d_Mo_move_5 rfl (lv_at hl 2 rfl) ?_
  obtain ⟨r2, er2, h⟩ := ok_b h
  refine z_vl (rest := []) C0 hw (c_Mo_g x2 r1 r2 er2) mw_Mo_g ml_Mo_341 0 rfl ⟨Nat.le_of_ble_eq_true rfl, Nat.le_of_ble_eq_true rfl⟩ ⟨Nat.le_refl 0, Nat.le_refl 0⟩ rfl hl.1 rfl (Nat.le_of_ble_eq_true rfl) d_Mo_move_6 (fun H locs hw => ?_)
  refine lv_lstore_n (lv' := [(3, .long r2), (0, .ref (ad 0)), (1, .int x1), (2, .int x2)]) hx hb d_Mo_move_9 rfl hl (by decide) rfl (fun ls hl => ?_)
  refine lv_iload_n hx hb d_Mo_move_10 rfl (lv_at hl 2 rfl) ?_
  refine lv_sipush (v := (134 : Int32)) hx hb d_Mo_move_11 (by decide) ?_
  refine lv_icmp_ge (tgt := 34) hx hb d_Mo_move_14 (by decide) (fun c3 => ?_) (fun c3 => ?_)
  · have h := ok_t h c3
    refine lv_iload_n hx hb d_Mo_move_34 rfl (lv_at hl 2 rfl) ?_
    refine lv_sipush (v := (136 : Int32)) hx hb d_Mo_move_35 (by decide) ?_
    refine lv_icmp_ge (tgt := 65) hx hb d_Mo_move_38 (by decide) (fun c4 => ?_) (fun c4 => ?_)
    · have h := ok_t h c4
      refine lv_iload_n hx hb d_Mo_move_65 rfl (lv_at hl 2 rfl) ?_
      refine lv_sipush (v := (138 : Int32)) hx hb d_Mo_move_66 (by decide) ?_
      refine lv_icmp_ge (tgt := 88) hx hb d_Mo_move_69 (by decide) (fun c5 => ?_) (fun c5 => ?_)
      · have h := ok_t h c5
        refine lv_aload_n hx hb d_Mo_move_88 rfl (lv_at hl 1 rfl) ?_
        refine lv_iload_n hx hb d_Mo_move_89 rfl (lv_at hl 3 rfl) ?_
        refine lv_aload_n hx hb d_Mo_move_90 rfl (lv_at hl 1 rfl) ?_
        refine lv_iload_n hx hb d_Mo_move_91 rfl (lv_at hl 3 rfl) ?_
        refine lv_iconst (v := (0 : Int32)) hx hb d_Mo_move_92 (by decide) ?_
        obtain ⟨r6, er6, h⟩ := ok_b h
        refine z_vl (rest := [.int x2, .ref (ad 0)]) C0 hw (c_Mo_e x2 (0 : Int32) r1 r6 er6) mw_Mo_e ml_Mo_338 0 rfl ⟨Nat.le_of_ble_eq_true rfl, Nat.le_of_ble_eq_true rfl⟩ ⟨Nat.le_refl 0, Nat.le_refl 0⟩ rfl hl.1 rfl (Nat.le_of_ble_eq_true rfl) d_Mo_move_93 (fun H locs hw => ?_)
        obtain ⟨r7, er7, h⟩ := ok_b h
        refine z_vv (rest := []) C0 hw (c_Mo_setG x2 r6.1 r6.2 r7 er7) mw_Mo_setG ml_Mo_344 0 rfl ⟨Nat.le_of_ble_eq_true rfl, Nat.le_of_ble_eq_true rfl⟩ ⟨Nat.le_refl 0, Nat.le_refl 0⟩ rfl hl.1 rfl (Nat.le_of_ble_eq_true rfl) d_Mo_move_96 (fun H locs hw => ?_)
        exact w_Mo_move_99 o C0 r7 h H locs ls hw (lv_sub hl [] rfl)
      · have h := ok_f h c5
        refine lv_aload_n hx hb d_Mo_move_72 rfl (lv_at hl 1 rfl) ?_
        refine lv_iload_n hx hb d_Mo_move_73 rfl (lv_at hl 3 rfl) ?_
        refine lv_iconst (v := (1 : Int32)) hx hb d_Mo_move_74 (by decide) ?_
        obtain ⟨r8, er8, h⟩ := ok_b h
        refine z_vl (rest := []) C0 hw (c_Mo_e x2 (1 : Int32) r1 r8 er8) mw_Mo_e ml_Mo_338 0 rfl ⟨Nat.le_of_ble_eq_true rfl, Nat.le_of_ble_eq_true rfl⟩ ⟨Nat.le_refl 0, Nat.le_refl 0⟩ rfl hl.1 rfl (Nat.le_of_ble_eq_true rfl) d_Mo_move_75 (fun H locs hw => ?_)
        refine lv_pop2_2 hx hb d_Mo_move_78 rfl ?_
        refine lv_aload_n hx hb d_Mo_move_79 rfl (lv_at hl 1 rfl) ?_
        refine lv_iload_n hx hb d_Mo_move_80 rfl (lv_at hl 3 rfl) ?_
        refine lv_lload_n hx hb d_Mo_move_81 rfl (lv_at hl 0 rfl) ?_
        obtain ⟨r9, er9, h⟩ := ok_b h
        refine z_vv (rest := []) C0 hw (c_Mo_setE x2 r2 r8.2 r9 er9) mw_Mo_setE ml_Mo_348 0 rfl ⟨Nat.le_of_ble_eq_true rfl, Nat.le_of_ble_eq_true rfl⟩ ⟨Nat.le_refl 0, Nat.le_refl 0⟩ rfl hl.1 rfl (Nat.le_of_ble_eq_true rfl) d_Mo_move_82 (fun H locs hw => ?_)
        refine lv_goto (tgt := 99) hx hb d_Mo_move_85 (by decide) ?_
        exact w_Mo_move_99 o C0 r9 h H locs ls hw (lv_sub hl [] rfl)
    · have h := ok_f h c4
      refine lv_aload_n hx hb d_Mo_move_41 rfl (lv_at hl 1 rfl) ?_
      refine lv_iload_n hx hb d_Mo_move_42 rfl (lv_at hl 3 rfl) ?_
      refine lv_iconst (v := (1 : Int32)) hx hb d_Mo_move_43 (by decide) ?_
      obtain ⟨r10, er10, h⟩ := ok_b h
      refine z_vl (rest := []) C0 hw (c_Mo_e x2 (1 : Int32) r1 r10 er10) mw_Mo_e ml_Mo_338 0 rfl ⟨Nat.le_of_ble_eq_true rfl, Nat.le_of_ble_eq_true rfl⟩ ⟨Nat.le_refl 0, Nat.le_refl 0⟩ rfl hl.1 rfl (Nat.le_of_ble_eq_true rfl) d_Mo_move_44 (fun H locs hw => ?_)
      refine lv_lstore (lv' := [(5, .long r10.1), (3, .long r2), (0, .ref (ad 0)), (1, .int x1), (2, .int x2)]) hx hb d_Mo_move_47 hl (by decide) rfl (fun ls hl => ?_)
      refine lv_aload_n hx hb d_Mo_move_49 rfl (lv_at hl 2 rfl) ?_
      refine lv_iload_n hx hb d_Mo_move_50 rfl (lv_at hl 4 rfl) ?_
      refine lv_lload_n hx hb d_Mo_move_51 rfl (lv_at hl 1 rfl) ?_
      obtain ⟨r11, er11, h⟩ := ok_b h
      refine z_vv (rest := []) C0 hw (c_Mo_setE x2 r2 r10.2 r11 er11) mw_Mo_setE ml_Mo_348 0 rfl ⟨Nat.le_of_ble_eq_true rfl, Nat.le_of_ble_eq_true rfl⟩ ⟨Nat.le_refl 0, Nat.le_refl 0⟩ rfl hl.1 rfl (Nat.le_of_ble_eq_true rfl) d_Mo_move_52 (fun H locs hw => ?_)
      refine lv_aload_n hx hb d_Mo_move_55 rfl (lv_at hl 2 rfl) ?_
      refine lv_iload_n hx hb d_Mo_move_56 rfl (lv_at hl 4 rfl) ?_
      refine lv_lload hx hb d_Mo_move_57 (lv_at hl 0 rfl) ?_
      obtain ⟨r12, er12, h⟩ := ok_b h
      refine z_vv (rest := []) C0 hw (c_Mo_setG x2 r10.1 r11 r12 er12) mw_Mo_setG ml_Mo_344 0 rfl ⟨Nat.le_of_ble_eq_true rfl, Nat.le_of_ble_eq_true rfl⟩ ⟨Nat.le_refl 0, Nat.le_refl 0⟩ rfl hl.1 rfl (Nat.le_of_ble_eq_true rfl) d_Mo_move_59 (fun H locs hw => ?_)
      refine lv_goto (tgt := 99) hx hb d_Mo_move_62 (by decide) ?_
      exact w_Mo_move_99 o C0 r12 h H locs ls hw (lv_sub hl [] rfl)
  · have h := ok_f h c3
    refine lv_aload_n hx hb d_Mo_move_17 rfl (lv_at hl 1 rfl) ?_
    refine lv_aload_n hx hb d_Mo_move_18 rfl (lv_at hl 1 rfl) ?_
    refine lv_iload_n hx hb d_Mo_move_19 rfl (lv_at hl 3 rfl) ?_
    refine lv_iconst (v := (0 : Int32)) hx hb d_Mo_move_20 (by decide) ?_
    obtain ⟨r13, er13, h⟩ := ok_b h
    refine z_vl (rest := [.ref (ad 0)]) C0 hw (c_Mo_e x2 (0 : Int32) r1 r13 er13) mw_Mo_e ml_Mo_338 0 rfl ⟨Nat.le_of_ble_eq_true rfl, Nat.le_of_ble_eq_true rfl⟩ ⟨Nat.le_refl 0, Nat.le_refl 0⟩ rfl hl.1 rfl (Nat.le_of_ble_eq_true rfl) d_Mo_move_21 (fun H locs hw => ?_)
    refine lv_lload_n hx hb d_Mo_move_24 rfl (lv_at hl 0 rfl) ?_
    refine lv_land hx hb d_Mo_move_25 ?_
    refine lv_iload_n hx hb d_Mo_move_26 rfl (lv_at hl 3 rfl) ?_
    obtain ⟨r14, er14, h⟩ := ok_b h
    refine z_vl (rest := []) C0 hw (c_Mo_logic (r13.1 &&& r2) x2 r13.2 r14 er14) mw_Mo_logic ml_Mo_222 0 rfl ⟨Nat.le_of_ble_eq_true rfl, Nat.le_of_ble_eq_true rfl⟩ ⟨Nat.le_refl 0, Nat.le_refl 0⟩ rfl hl.1 rfl (Nat.le_of_ble_eq_true rfl) d_Mo_move_27 (fun H locs hw => ?_)
    refine lv_pop2_2 hx hb d_Mo_move_30 rfl ?_
    refine lv_goto (tgt := 99) hx hb d_Mo_move_31 (by decide) ?_
    exact w_Mo_move_99 o C0 r14.2 h H locs ls hw (lv_sub hl [] rfl)
def k_Mo_holds_181 (t0 : Int32) (q : z_Sg) : Option Int32 :=
  z_gd (z_bo t0) (some t0)
def k_Mo_holds_158 (x1 : Int32) (t0 : Int32) (q : z_Sg) : Option Int32 :=
  if (x1 - x1 / (2 : Int32) * (2 : Int32)) = 0 then (k_Mo_holds_181 t0 q) else (if t0 = 0 then (k_Mo_holds_181 (1 : Int32) q) else (k_Mo_holds_181 (0 : Int32) q))
def k_Mo_holds_153 (x1 : Int32) (q : z_Sg) : Option Int32 :=
  k_Mo_holds_158 x1 (1 : Int32) q
def k_Mo_holds_94 (x1 : Int32) (q : z_Sg) : Option Int32 :=
  k_Mo_holds_158 x1 (1 : Int32) q
def k_Mo_holds_21 (x1 : Int32) (t0 : Int32) (q : z_Sg) : Option Int32 :=
  z_nm (((x1 / (2 : Int32)) - (x1 / (2 : Int32)) / (8 : Int32) * (8 : Int32))) (fun n4 => if n4 = 0 then (if z_bad (6 : Int32) 7 then none else (k_Mo_holds_158 x1 (z_gN q 1 (6 : Int32).toNatClampNeg) q)) else (if n4 = (1 : Int32) then (if z_bad (0 : Int32) 7 then none else (k_Mo_holds_158 x1 (z_gN q 1 (0 : Int32).toNatClampNeg) q)) else (if n4 = (2 : Int32) then (if z_bad (3 : Int32) 7 then none else (k_Mo_holds_158 x1 (z_gN q 1 (3 : Int32).toNatClampNeg) q)) else (if n4 = (3 : Int32) then (if z_bad (0 : Int32) 7 then none else (if (z_gN q 1 (0 : Int32).toNatClampNeg) = 0 then (if z_bad (3 : Int32) 7 then none else (if (z_gN q 1 (3 : Int32).toNatClampNeg) = 0 then (k_Mo_holds_158 x1 (0 : Int32) q) else (k_Mo_holds_94 x1 q))) else (k_Mo_holds_94 x1 q))) else (if n4 = (4 : Int32) then (if z_bad (4 : Int32) 7 then none else (k_Mo_holds_158 x1 (z_gN q 1 (4 : Int32).toNatClampNeg) q)) else (if n4 = (5 : Int32) then (if z_bad (1 : Int32) 7 then none else (k_Mo_holds_158 x1 (z_gN q 1 (1 : Int32).toNatClampNeg) q)) else (if n4 = (6 : Int32) then (k_Mo_holds_158 x1 t0 q) else (if t0 = 0 then (if z_bad (3 : Int32) 7 then none else (if (z_gN q 1 (3 : Int32).toNatClampNeg) = 0 then (k_Mo_holds_158 x1 (0 : Int32) q) else (k_Mo_holds_153 x1 q))) else (k_Mo_holds_153 x1 q)))))))))
def f_Mo_holds (x1 : Int32) (q : z_Sg) : Option Int32 :=
  if z_bad (4 : Int32) 7 then none else (if z_bad (6 : Int32) 7 then none else (if (z_gN q 1 (4 : Int32).toNatClampNeg) = (z_gN q 1 (6 : Int32).toNatClampNeg) then (k_Mo_holds_21 x1 (0 : Int32) q) else (k_Mo_holds_21 x1 (1 : Int32) q)))
set_option maxHeartbeats 4000000 in
set_option maxRecDepth 100000 in
theorem w_Mo_holds_181 {p : Program} {l : Launch} {e : Env} {s : State} {m : MethodId} {args : Array Value} {below : List Frame} {meth : Method} {c : Code} {D : va_G} {A : Nat → Prop} {ad : Nat → Nat} {ca : Nat → ClassId} (o : Int32) (C0 : z_cx z_RMo b_Mo_holds 5 (some .boolean) D (z_Mt ca) A p s m args meth c) (q : z_Sg) (t0 : Int32) (h : k_Mo_holds_181 t0 q = some o) : ∀ (H : Heap) (locs : List Loc) (ls : Array Slot), z_wd D (z_M ad ca q) A s H locs → lv_has ls 5 [] → W p l e (z_rm 0 0) s m args below meth c H locs 0 0 (z_qi below D (z_Mt ca) (z_M ad ca q) A s args o) (F0 m 181 ls [.int t0]) := by
  obtain ⟨hx, hb, hr, hlk, hml, hown, hts, hK, hA⟩ := id C0
  intro H locs ls hw hl
  obtain ⟨b15, h⟩ := ok_G h
  have ho := Option.some.inj h
  subst ho
  exact z_rtz C0 hw (z_bo_n b15) d_Mo_holds_181
set_option maxHeartbeats 4000000 in
set_option maxRecDepth 100000 in
theorem w_Mo_holds_158 {p : Program} {l : Launch} {e : Env} {s : State} {m : MethodId} {args : Array Value} {below : List Frame} {meth : Method} {c : Code} {D : va_G} {A : Nat → Prop} {ad : Nat → Nat} {ca : Nat → ClassId} (o : Int32) (C0 : z_cx z_RMo b_Mo_holds 5 (some .boolean) D (z_Mt ca) A p s m args meth c) (q : z_Sg) (x1 : Int32) (t0 : Int32) (h : k_Mo_holds_158 x1 t0 q = some o) : ∀ (H : Heap) (locs : List Loc) (ls : Array Slot), z_wd D (z_M ad ca q) A s H locs → lv_has ls 5 [(1, .int x1)] → W p l e (z_rm 0 0) s m args below meth c H locs 0 0 (z_qi below D (z_Mt ca) (z_M ad ca q) A s args o) (F0 m 158 ls [.int t0]) := by
  obtain ⟨hx, hb, hr, hlk, hml, hown, hts, hK, hA⟩ := id C0
  intro H locs ls hw hl
  refine lv_istore (lv' := [(4, .int t0), (1, .int x1)]) hx hb d_Mo_holds_158 hl (by decide) rfl (fun ls hl => ?_)
  refine lv_iload_n hx hb d_Mo_holds_160 rfl (lv_at hl 1 rfl) ?_
  refine lv_iconst (v := (2 : Int32)) hx hb d_Mo_holds_161 (by decide) ?_
  refine lv_irem hx hb d_Mo_holds_162 (by decide) ?_
  refine lv_if_ne (tgt := 171) hx hb d_Mo_holds_163 (by decide) (fun c13 => ?_) (fun c13 => ?_)
  · have h := ok_f h c13
    refine lv_iload hx hb d_Mo_holds_171 (lv_at hl 0 rfl) ?_
    refine lv_if_ne (tgt := 180) hx hb d_Mo_holds_173 (by decide) (fun c14 => ?_) (fun c14 => ?_)
    · have h := ok_f h c14
      refine lv_iconst (v := (0 : Int32)) hx hb d_Mo_holds_180 (by decide) ?_
      exact w_Mo_holds_181 o C0 q (0 : Int32) h H locs ls hw (lv_sub hl [] rfl)
    · have h := ok_t h c14
      refine lv_iconst (v := (1 : Int32)) hx hb d_Mo_holds_176 (by decide) ?_
      refine lv_goto (tgt := 181) hx hb d_Mo_holds_177 (by decide) ?_
      exact w_Mo_holds_181 o C0 q (1 : Int32) h H locs ls hw (lv_sub hl [] rfl)
  · have h := ok_t h c13
    refine lv_iload hx hb d_Mo_holds_166 (lv_at hl 0 rfl) ?_
    refine lv_goto (tgt := 181) hx hb d_Mo_holds_168 (by decide) ?_
    exact w_Mo_holds_181 o C0 q t0 h H locs ls hw (lv_sub hl [] rfl)
set_option maxHeartbeats 4000000 in
set_option maxRecDepth 100000 in
theorem w_Mo_holds_153 {p : Program} {l : Launch} {e : Env} {s : State} {m : MethodId} {args : Array Value} {below : List Frame} {meth : Method} {c : Code} {D : va_G} {A : Nat → Prop} {ad : Nat → Nat} {ca : Nat → ClassId} (o : Int32) (C0 : z_cx z_RMo b_Mo_holds 5 (some .boolean) D (z_Mt ca) A p s m args meth c) (q : z_Sg) (x1 : Int32) (h : k_Mo_holds_153 x1 q = some o) : ∀ (H : Heap) (locs : List Loc) (ls : Array Slot), z_wd D (z_M ad ca q) A s H locs → lv_has ls 5 [(1, .int x1)] → W p l e (z_rm 0 0) s m args below meth c H locs 0 0 (z_qi below D (z_Mt ca) (z_M ad ca q) A s args o) (F0 m 153 ls []) := by
  obtain ⟨hx, hb, hr, hlk, hml, hown, hts, hK, hA⟩ := id C0
  intro H locs ls hw hl
  refine lv_iconst (v := (1 : Int32)) hx hb d_Mo_holds_153 (by decide) ?_
  refine lv_goto (tgt := 158) hx hb d_Mo_holds_154 (by decide) ?_
  exact w_Mo_holds_158 o C0 q x1 (1 : Int32) h H locs ls hw (lv_sub hl [0] rfl)
set_option maxHeartbeats 4000000 in
set_option maxRecDepth 100000 in
theorem w_Mo_holds_94 {p : Program} {l : Launch} {e : Env} {s : State} {m : MethodId} {args : Array Value} {below : List Frame} {meth : Method} {c : Code} {D : va_G} {A : Nat → Prop} {ad : Nat → Nat} {ca : Nat → ClassId} (o : Int32) (C0 : z_cx z_RMo b_Mo_holds 5 (some .boolean) D (z_Mt ca) A p s m args meth c) (q : z_Sg) (x1 : Int32) (h : k_Mo_holds_94 x1 q = some o) : ∀ (H : Heap) (locs : List Loc) (ls : Array Slot), z_wd D (z_M ad ca q) A s H locs → lv_has ls 5 [(1, .int x1)] → W p l e (z_rm 0 0) s m args below meth c H locs 0 0 (z_qi below D (z_Mt ca) (z_M ad ca q) A s args o) (F0 m 94 ls []) := by
  obtain ⟨hx, hb, hr, hlk, hml, hown, hts, hK, hA⟩ := id C0
  intro H locs ls hw hl
  refine lv_iconst (v := (1 : Int32)) hx hb d_Mo_holds_94 (by decide) ?_
  refine lv_goto (tgt := 158) hx hb d_Mo_holds_95 (by decide) ?_
  exact w_Mo_holds_158 o C0 q x1 (1 : Int32) h H locs ls hw (lv_sub hl [0] rfl)
set_option maxHeartbeats 4000000 in
set_option maxRecDepth 100000 in
theorem w_Mo_holds_21 {p : Program} {l : Launch} {e : Env} {s : State} {m : MethodId} {args : Array Value} {below : List Frame} {meth : Method} {c : Code} {D : va_G} {A : Nat → Prop} {ad : Nat → Nat} {ca : Nat → ClassId} (o : Int32) (C0 : z_cx z_RMo b_Mo_holds 5 (some .boolean) D (z_Mt ca) A p s m args meth c) (q : z_Sg) (x1 : Int32) (t0 : Int32) (h : k_Mo_holds_21 x1 t0 q = some o) : ∀ (H : Heap) (locs : List Loc) (ls : Array Slot), z_wd D (z_M ad ca q) A s H locs → lv_has ls 5 [(0, .ref (ad 0)), (1, .int x1)] → W p l e (z_rm 0 0) s m args below meth c H locs 0 0 (z_qi below D (z_Mt ca) (z_M ad ca q) A s args o) (F0 m 21 ls [.int t0]) := by
  obtain ⟨hx, hb, hr, hlk, hml, hown, hts, hK, hA⟩ := id C0
  intro H locs ls hw hl
  refine lv_istore_n (lv' := [(2, .int t0), (0, .ref (ad 0)), (1, .int x1)]) hx hb d_Mo_holds_21 rfl hl (by decide) rfl (fun ls hl => ?_)
  refine lv_iload_n hx hb d_Mo_holds_22 rfl (lv_at hl 2 rfl) ?_
  refine lv_iconst (v := (2 : Int32)) hx hb d_Mo_holds_23 (by decide) ?_
  refine lv_idiv hx hb d_Mo_holds_24 (by decide) ?_
  refine lv_bipush (v := (8 : Int32)) hx hb d_Mo_holds_25 (by decide) ?_
  refine lv_irem hx hb d_Mo_holds_27 (by decide) ?_
  obtain ⟨n4, en4, h⟩ := ok_n h
  refine z_ti en4 ?_
  refine lv_istore_n (lv' := [(3, .int n4), (2, .int t0), (0, .ref (ad 0)), (1, .int x1)]) hx hb d_Mo_holds_28 rfl hl (by decide) rfl (fun ls hl => ?_)
  refine lv_iload_n hx hb d_Mo_holds_29 rfl (lv_at hl 0 rfl) ?_
  refine lv_if_ne (tgt := 43) hx hb d_Mo_holds_30 (by decide) (fun c5 => ?_) (fun c5 => ?_)
  · have h := ok_f h c5
    refine lv_iload_n hx hb d_Mo_holds_43 rfl (lv_at hl 0 rfl) ?_
    refine lv_iconst (v := (1 : Int32)) hx hb d_Mo_holds_44 (by decide) ?_
    refine lv_icmp_ne (tgt := 57) hx hb d_Mo_holds_45 (by decide) (fun c6 => ?_) (fun c6 => ?_)
    · have h := ok_f h c6
      refine lv_iload_n hx hb d_Mo_holds_57 rfl (lv_at hl 0 rfl) ?_
      refine lv_iconst (v := (2 : Int32)) hx hb d_Mo_holds_58 (by decide) ?_
      refine lv_icmp_ne (tgt := 71) hx hb d_Mo_holds_59 (by decide) (fun c7 => ?_) (fun c7 => ?_)
      · have h := ok_f h c7
        refine lv_iload_n hx hb d_Mo_holds_71 rfl (lv_at hl 0 rfl) ?_
        refine lv_iconst (v := (3 : Int32)) hx hb d_Mo_holds_72 (by decide) ?_
        refine lv_icmp_ne (tgt := 102) hx hb d_Mo_holds_73 (by decide) (fun c8 => ?_) (fun c8 => ?_)
        · have h := ok_f h c8
          refine lv_iload_n hx hb d_Mo_holds_102 rfl (lv_at hl 0 rfl) ?_
          refine lv_iconst (v := (4 : Int32)) hx hb d_Mo_holds_103 (by decide) ?_
          refine lv_icmp_ne (tgt := 116) hx hb d_Mo_holds_104 (by decide) (fun c9 => ?_) (fun c9 => ?_)
          · have h := ok_f h c9
            refine lv_iload_n hx hb d_Mo_holds_116 rfl (lv_at hl 0 rfl) ?_
            refine lv_iconst (v := (5 : Int32)) hx hb d_Mo_holds_117 (by decide) ?_
            refine lv_icmp_ne (tgt := 130) hx hb d_Mo_holds_118 (by decide) (fun c10 => ?_) (fun c10 => ?_)
            · have h := ok_f h c10
              refine lv_iload_n hx hb d_Mo_holds_130 rfl (lv_at hl 0 rfl) ?_
              refine lv_bipush (v := (6 : Int32)) hx hb d_Mo_holds_131 (by decide) ?_
              refine lv_icmp_ne (tgt := 140) hx hb d_Mo_holds_133 (by decide) (fun c11 => ?_) (fun c11 => ?_)
              · have h := ok_f h c11
                refine lv_iload_n hx hb d_Mo_holds_140 rfl (lv_at hl 1 rfl) ?_
                refine lv_if_ne (tgt := 153) hx hb d_Mo_holds_141 (by decide) (fun c12 => ?_) (fun c12 => ?_)
                · have h := ok_f h c12
                  exact w_Mo_holds_153 o C0 q x1 h H locs ls hw (lv_sub hl [3] rfl)
                · have h := ok_t h c12
                  refine lv_aload_n hx hb d_Mo_holds_144 rfl (lv_at hl 2 rfl) ?_
                  refine gfM_0_flag C0 hw fl_Mo_21 d_Mo_holds_145 ?_
                  refine lv_iconst (v := (3 : Int32)) hx hb d_Mo_holds_148 (by decide) ?_
                  obtain ⟨b16, h⟩ := ok_g h
                  refine alM_4 C0 hw b16 d_Mo_holds_149 ?_
                  refine lv_if_eq (tgt := 157) hx hb d_Mo_holds_150 (by decide) (fun c17 => ?_) (fun c17 => ?_)
                  · have h := ok_t h c17
                    refine lv_iconst (v := (0 : Int32)) hx hb d_Mo_holds_157 (by decide) ?_
                    exact w_Mo_holds_158 o C0 q x1 (0 : Int32) h H locs ls hw (lv_sub hl [3] rfl)
                  · have h := ok_f h c17
                    exact w_Mo_holds_153 o C0 q x1 h H locs ls hw (lv_sub hl [3] rfl)
              · have h := ok_t h c11
                refine lv_iload_n hx hb d_Mo_holds_136 rfl (lv_at hl 1 rfl) ?_
                refine lv_goto (tgt := 158) hx hb d_Mo_holds_137 (by decide) ?_
                exact w_Mo_holds_158 o C0 q x1 t0 h H locs ls hw (lv_sub hl [3] rfl)
            · have h := ok_t h c10
              refine lv_aload_n hx hb d_Mo_holds_121 rfl (lv_at hl 2 rfl) ?_
              refine gfM_0_flag C0 hw fl_Mo_21 d_Mo_holds_122 ?_
              refine lv_iconst (v := (1 : Int32)) hx hb d_Mo_holds_125 (by decide) ?_
              obtain ⟨b18, h⟩ := ok_g h
              refine alM_4 C0 hw b18 d_Mo_holds_126 ?_
              refine lv_goto (tgt := 158) hx hb d_Mo_holds_127 (by decide) ?_
              exact w_Mo_holds_158 o C0 q x1 (z_gN q 1 (1 : Int32).toNatClampNeg) h H locs ls hw (lv_sub hl [3] rfl)
          · have h := ok_t h c9
            refine lv_aload_n hx hb d_Mo_holds_107 rfl (lv_at hl 2 rfl) ?_
            refine gfM_0_flag C0 hw fl_Mo_21 d_Mo_holds_108 ?_
            refine lv_iconst (v := (4 : Int32)) hx hb d_Mo_holds_111 (by decide) ?_
            obtain ⟨b19, h⟩ := ok_g h
            refine alM_4 C0 hw b19 d_Mo_holds_112 ?_
            refine lv_goto (tgt := 158) hx hb d_Mo_holds_113 (by decide) ?_
            exact w_Mo_holds_158 o C0 q x1 (z_gN q 1 (4 : Int32).toNatClampNeg) h H locs ls hw (lv_sub hl [3] rfl)
        · have h := ok_t h c8
          refine lv_aload_n hx hb d_Mo_holds_76 rfl (lv_at hl 2 rfl) ?_
          refine gfM_0_flag C0 hw fl_Mo_21 d_Mo_holds_77 ?_
          refine lv_iconst (v := (0 : Int32)) hx hb d_Mo_holds_80 (by decide) ?_
          obtain ⟨b20, h⟩ := ok_g h
          refine alM_4 C0 hw b20 d_Mo_holds_81 ?_
          refine lv_if_ne (tgt := 94) hx hb d_Mo_holds_82 (by decide) (fun c21 => ?_) (fun c21 => ?_)
          · have h := ok_f h c21
            exact w_Mo_holds_94 o C0 q x1 h H locs ls hw (lv_sub hl [3] rfl)
          · have h := ok_t h c21
            refine lv_aload_n hx hb d_Mo_holds_85 rfl (lv_at hl 2 rfl) ?_
            refine gfM_0_flag C0 hw fl_Mo_21 d_Mo_holds_86 ?_
            refine lv_iconst (v := (3 : Int32)) hx hb d_Mo_holds_89 (by decide) ?_
            obtain ⟨b22, h⟩ := ok_g h
            refine alM_4 C0 hw b22 d_Mo_holds_90 ?_
            refine lv_if_eq (tgt := 98) hx hb d_Mo_holds_91 (by decide) (fun c23 => ?_) (fun c23 => ?_)
            · have h := ok_t h c23
              refine lv_iconst (v := (0 : Int32)) hx hb d_Mo_holds_98 (by decide) ?_
              refine lv_goto (tgt := 158) hx hb d_Mo_holds_99 (by decide) ?_
              exact w_Mo_holds_158 o C0 q x1 (0 : Int32) h H locs ls hw (lv_sub hl [3] rfl)
            · have h := ok_f h c23
              exact w_Mo_holds_94 o C0 q x1 h H locs ls hw (lv_sub hl [3] rfl)
      · have h := ok_t h c7
        refine lv_aload_n hx hb d_Mo_holds_62 rfl (lv_at hl 2 rfl) ?_
        refine gfM_0_flag C0 hw fl_Mo_21 d_Mo_holds_63 ?_
        refine lv_iconst (v := (3 : Int32)) hx hb d_Mo_holds_66 (by decide) ?_
        obtain ⟨b24, h⟩ := ok_g h
        refine alM_4 C0 hw b24 d_Mo_holds_67 ?_
        refine lv_goto (tgt := 158) hx hb d_Mo_holds_68 (by decide) ?_
        exact w_Mo_holds_158 o C0 q x1 (z_gN q 1 (3 : Int32).toNatClampNeg) h H locs ls hw (lv_sub hl [3] rfl)
    · have h := ok_t h c6
      refine lv_aload_n hx hb d_Mo_holds_48 rfl (lv_at hl 2 rfl) ?_
      refine gfM_0_flag C0 hw fl_Mo_21 d_Mo_holds_49 ?_
      refine lv_iconst (v := (0 : Int32)) hx hb d_Mo_holds_52 (by decide) ?_
      obtain ⟨b25, h⟩ := ok_g h
      refine alM_4 C0 hw b25 d_Mo_holds_53 ?_
      refine lv_goto (tgt := 158) hx hb d_Mo_holds_54 (by decide) ?_
      exact w_Mo_holds_158 o C0 q x1 (z_gN q 1 (0 : Int32).toNatClampNeg) h H locs ls hw (lv_sub hl [3] rfl)
  · have h := ok_t h c5
    refine lv_aload_n hx hb d_Mo_holds_33 rfl (lv_at hl 2 rfl) ?_
    refine gfM_0_flag C0 hw fl_Mo_21 d_Mo_holds_34 ?_
    refine lv_bipush (v := (6 : Int32)) hx hb d_Mo_holds_37 (by decide) ?_
    obtain ⟨b26, h⟩ := ok_g h
    refine alM_4 C0 hw b26 d_Mo_holds_39 ?_
    refine lv_goto (tgt := 158) hx hb d_Mo_holds_40 (by decide) ?_
    exact w_Mo_holds_158 o C0 q x1 (z_gN q 1 (6 : Int32).toNatClampNeg) h H locs ls hw (lv_sub hl [3] rfl)
set_option maxHeartbeats 4000000 in
set_option maxRecDepth 100000 in
theorem c_Mo_holds {l : Launch} {D : va_G} {ad : Nat → Nat} {ca : Nat → ClassId} (x1 : Int32) (q : z_Sg) (o : Int32) (h : f_Mo_holds x1 q = some o) : z_ci l y_Mo_holds b_Mo_holds 5 (some .boolean) 0 0 D (z_Mt ca) (z_M ad ca q) (z_M ad ca q) [.ref (ad 0), .int x1] o := by
  refine z_ci_of (own := z_RMo) (by decide) rfl ?_
  intro p e s m below meth c A C0 hw
  obtain ⟨hx, hb, hr, hlk, hml, hown, hts, hK, hA⟩ := id C0
  generalize hH : s.heap = H at hw ⊢
  generalize hlo : ([] : List Loc) = locs at hw ⊢
  refine z_entry (lv := [(0, .ref (ad 0)), (1, .int x1)]) (Nat.le_of_ble_eq_true rfl) rfl (fun ls hl => ?_)
  unfold f_Mo_holds at h
  refine lv_aload_n hx hb d_Mo_holds_0 rfl (lv_at hl 0 rfl) ?_
  refine gfM_0_flag C0 hw fl_Mo_21 d_Mo_holds_1 ?_
  refine lv_iconst (v := (4 : Int32)) hx hb d_Mo_holds_4 (by decide) ?_
  obtain ⟨b1, h⟩ := ok_g h
  refine alM_4 C0 hw b1 d_Mo_holds_5 ?_
  refine lv_aload_n hx hb d_Mo_holds_6 rfl (lv_at hl 0 rfl) ?_
  refine gfM_0_flag C0 hw fl_Mo_21 d_Mo_holds_7 ?_
  refine lv_bipush (v := (6 : Int32)) hx hb d_Mo_holds_10 (by decide) ?_
  obtain ⟨b2, h⟩ := ok_g h
  refine alM_4 C0 hw b2 d_Mo_holds_12 ?_
  refine lv_icmp_eq (tgt := 20) hx hb d_Mo_holds_13 (by decide) (fun c3 => ?_) (fun c3 => ?_)
  · have h := ok_t h c3
    refine lv_iconst (v := (0 : Int32)) hx hb d_Mo_holds_20 (by decide) ?_
    exact w_Mo_holds_21 o C0 q x1 (0 : Int32) h H locs ls hw (lv_sub hl [0, 1] rfl)
  · have h := ok_f h c3
    refine lv_iconst (v := (1 : Int32)) hx hb d_Mo_holds_16 (by decide) ?_
    refine lv_goto (tgt := 21) hx hb d_Mo_holds_17 (by decide) ?_
    exact w_Mo_holds_21 o C0 q x1 (1 : Int32) h H locs ls hw (lv_sub hl [0, 1] rfl)
def k_Mo_branch_41 (q : z_Sg) : Option z_Sg :=
  some q
def k_Mo_branch_13 (x1 : Int32) (x2 : Int32) (q : z_Sg) : Option z_Sg :=
  (f_Mo_number x2 q).bind (fun r2 => if x1 = 0 then (k_Mo_branch_41 r2.2) else (if (z_gI r2.2 4) = (-1 : Int32) then ((f_Mo_jump ((z_gL r2.2 7) + r2.1) r2.2).bind (fun r5 => k_Mo_branch_41 r5)) else (k_Mo_branch_41 r2.2)))
def f_Mo_branch (x1 : Int32) (x2 : Int32) (q : z_Sg) : Option z_Sg :=
  if (z_gI q 16) = 0 then (k_Mo_branch_13 x1 x2 q) else ((f_Mo_refuse (6 : Int32) q).bind (fun r6 => k_Mo_branch_13 x1 x2 r6))
set_option maxHeartbeats 4000000 in
set_option maxRecDepth 100000 in
theorem w_Mo_branch_41 {p : Program} {l : Launch} {e : Env} {s : State} {m : MethodId} {args : Array Value} {below : List Frame} {meth : Method} {c : Code} {D : va_G} {A : Nat → Prop} {ad : Nat → Nat} {ca : Nat → ClassId} (o : z_Sg) (C0 : z_cx z_RMo b_Mo_branch 5 none D (z_Mt ca) A p s m args meth c) (q : z_Sg) (h : k_Mo_branch_41 q = some o) : ∀ (H : Heap) (locs : List Loc) (ls : Array Slot), z_wd D (z_M ad ca q) A s H locs → lv_has ls 5 [] → W p l e (z_rm 7 174) s m args below meth c H locs 0 0 (z_qv below D (z_Mt ca) (z_M ad ca o) A s args) (F0 m 41 ls []) := by
  obtain ⟨hx, hb, hr, hlk, hml, hown, hts, hK, hA⟩ := id C0
  intro H locs ls hw hl
  have ho := Option.some.inj h
  subst ho
  exact z_rtv C0 hw d_Mo_branch_41
set_option maxHeartbeats 4000000 in
set_option maxRecDepth 100000 in
theorem w_Mo_branch_13 {p : Program} {l : Launch} {e : Env} {s : State} {m : MethodId} {args : Array Value} {below : List Frame} {meth : Method} {c : Code} {D : va_G} {A : Nat → Prop} {ad : Nat → Nat} {ca : Nat → ClassId} (o : z_Sg) (C0 : z_cx z_RMo b_Mo_branch 5 none D (z_Mt ca) A p s m args meth c) (q : z_Sg) (x1 : Int32) (x2 : Int32) (h : k_Mo_branch_13 x1 x2 q = some o) : ∀ (H : Heap) (locs : List Loc) (ls : Array Slot), z_wd D (z_M ad ca q) A s H locs → lv_has ls 5 [(0, .ref (ad 0)), (1, .int x1), (2, .int x2)] → W p l e (z_rm 7 174) s m args below meth c H locs 0 0 (z_qv below D (z_Mt ca) (z_M ad ca o) A s args) (F0 m 13 ls []) := by
  obtain ⟨hx, hb, hr, hlk, hml, hown, hts, hK, hA⟩ := id C0
  intro H locs ls hw hl
  refine lv_aload_n hx hb d_Mo_branch_13 rfl (lv_at hl 0 rfl) ?_
  refine lv_iload_n hx hb d_Mo_branch_14 rfl (lv_at hl 2 rfl) ?_
  obtain ⟨r2, er2, h⟩ := ok_b h
  refine z_vl (rest := []) C0 hw (c_Mo_number x2 q r2 er2) mw_Mo_number ml_Mo_373 0 rfl ⟨Nat.le_of_ble_eq_true rfl, Nat.le_of_ble_eq_true rfl⟩ ⟨Nat.le_refl 0, Nat.le_refl 0⟩ rfl hl.1 rfl (Nat.le_of_ble_eq_true rfl) d_Mo_branch_15 (fun H locs hw => ?_)
  refine lv_lstore_n (lv' := [(3, .long r2.1), (0, .ref (ad 0)), (1, .int x1), (2, .int x2)]) hx hb d_Mo_branch_18 rfl hl (by decide) rfl (fun ls hl => ?_)
  refine lv_iload_n hx hb d_Mo_branch_19 rfl (lv_at hl 2 rfl) ?_
  refine lv_if_eq (tgt := 41) hx hb d_Mo_branch_20 (by decide) (fun c3 => ?_) (fun c3 => ?_)
  · have h := ok_t h c3
    exact w_Mo_branch_41 o C0 r2.2 h H locs ls hw (lv_sub hl [] rfl)
  · have h := ok_f h c3
    refine lv_aload_n hx hb d_Mo_branch_23 rfl (lv_at hl 1 rfl) ?_
    refine gfM_0_refused C0 hw fl_Mo_28 d_Mo_branch_24 ?_
    refine lv_iconst (v := (-1 : Int32)) hx hb d_Mo_branch_27 (by decide) ?_
    refine lv_icmp_ne (tgt := 41) hx hb d_Mo_branch_28 (by decide) (fun c4 => ?_) (fun c4 => ?_)
    · have h := ok_f h c4
      exact w_Mo_branch_41 o C0 r2.2 h H locs ls hw (lv_sub hl [] rfl)
    · have h := ok_t h c4
      refine lv_aload_n hx hb d_Mo_branch_31 rfl (lv_at hl 1 rfl) ?_
      refine lv_aload_n hx hb d_Mo_branch_32 rfl (lv_at hl 1 rfl) ?_
      refine gfM_0_goes C0 hw fl_Mo_173 d_Mo_branch_33 ?_
      refine lv_lload_n hx hb d_Mo_branch_36 rfl (lv_at hl 0 rfl) ?_
      refine lv_ladd hx hb d_Mo_branch_37 ?_
      obtain ⟨r5, er5, h⟩ := ok_b h
      refine z_vv (rest := []) C0 hw (c_Mo_jump ((z_gL r2.2 7) + r2.1) r2.2 r5 er5) mw_Mo_jump ml_Mo_431 0 rfl ⟨Nat.le_of_ble_eq_true rfl, Nat.le_of_ble_eq_true rfl⟩ ⟨Nat.le_refl 0, Nat.le_refl 0⟩ rfl hl.1 rfl (Nat.le_of_ble_eq_true rfl) d_Mo_branch_38 (fun H locs hw => ?_)
      exact w_Mo_branch_41 o C0 r5 h H locs ls hw (lv_sub hl [] rfl)
set_option maxHeartbeats 4000000 in
set_option maxRecDepth 100000 in
theorem c_Mo_branch {l : Launch} {D : va_G} {ad : Nat → Nat} {ca : Nat → ClassId} (x1 : Int32) (x2 : Int32) (q : z_Sg) (o : z_Sg) (h : f_Mo_branch x1 x2 q = some o) : z_cv l y_Mo_branch b_Mo_branch 5 none 7 174 D (z_Mt ca) (z_M ad ca q) (z_M ad ca o) [.ref (ad 0), .int x1, .int x2] := by
  refine z_cv_of (own := z_RMo) (by decide) rfl ?_
  intro p e s m below meth c A C0 hw
  obtain ⟨hx, hb, hr, hlk, hml, hown, hts, hK, hA⟩ := id C0
  generalize hH : s.heap = H at hw ⊢
  generalize hlo : ([] : List Loc) = locs at hw ⊢
  refine z_entry (lv := [(0, .ref (ad 0)), (1, .int x1), (2, .int x2)]) (Nat.le_of_ble_eq_true rfl) rfl (fun ls hl => ?_)
  unfold f_Mo_branch at h
  refine lv_aload_n hx hb d_Mo_branch_0 rfl (lv_at hl 0 rfl) ?_
  refine gfM_0_small C0 hw fl_Mo_127 d_Mo_branch_1 ?_
  refine lv_if_eq (tgt := 13) hx hb d_Mo_branch_4 (by decide) (fun c1 => ?_) (fun c1 => ?_)
  · have h := ok_t h c1
    exact w_Mo_branch_13 o C0 q x1 x2 h H locs ls hw (lv_sub hl [0, 1, 2] rfl)
  · have h := ok_f h c1
    refine lv_aload_n hx hb d_Mo_branch_7 rfl (lv_at hl 0 rfl) ?_
    refine lv_bipush (v := (6 : Int32)) hx hb d_Mo_branch_8 (by decide) ?_
    obtain ⟨r6, er6, h⟩ := ok_b h
    refine z_vv (rest := []) C0 hw (c_Mo_refuse (6 : Int32) q r6 er6) mw_Mo_refuse ml_Mo_81 0 rfl ⟨Nat.le_of_ble_eq_true rfl, Nat.le_of_ble_eq_true rfl⟩ ⟨Nat.le_refl 0, Nat.le_refl 0⟩ rfl hl.1 rfl (Nat.le_of_ble_eq_true rfl) d_Mo_branch_10 (fun H locs hw => ?_)
    exact w_Mo_branch_13 o C0 r6 x1 x2 h H locs ls hw (lv_sub hl [0, 1, 2] rfl)
def k_Mo_shortStack_51 (q : z_Sg) : Option z_Sg :=
  some q
def f_Mo_shortStack (x1 : Int32) (q : z_Sg) : Option z_Sg :=
  (f_Mo_plus (1 : Int32) q).bind (fun r1 => z_nm (((x1 - x1 / (8 : Int32) * (8 : Int32)) + r1)) (fun n2 => if (88 : Int32) ≤ x1 then ((f_Mo_stackSize q).bind (fun r4 => (f_Mo_stackSize q).bind (fun r5 => (f_Mo_pop r5 q).bind (fun r6 => (f_Mo_put8 n2 r4 r6.1 r6.2).bind (fun r7 => k_Mo_shortStack_51 r7))))) else (if z_bad n2 16 then none else ((f_Mo_stackSize q).bind (fun r9 => (f_Mo_push (z_gM q 0 n2.toNatClampNeg) r9 q).bind (fun r10 => k_Mo_shortStack_51 r10))))))
set_option maxHeartbeats 4000000 in
set_option maxRecDepth 100000 in
theorem w_Mo_shortStack_51 {p : Program} {l : Launch} {e : Env} {s : State} {m : MethodId} {args : Array Value} {below : List Frame} {meth : Method} {c : Code} {D : va_G} {A : Nat → Prop} {ad : Nat → Nat} {ca : Nat → ClassId} (o : z_Sg) (C0 : z_cx z_RMo b_Mo_shortStack 3 none D (z_Mt ca) A p s m args meth c) (q : z_Sg) (h : k_Mo_shortStack_51 q = some o) : ∀ (H : Heap) (locs : List Loc) (ls : Array Slot), z_wd D (z_M ad ca q) A s H locs → lv_has ls 3 [] → W p l e (z_rm 6 154) s m args below meth c H locs 0 0 (z_qv below D (z_Mt ca) (z_M ad ca o) A s args) (F0 m 51 ls []) := by
  obtain ⟨hx, hb, hr, hlk, hml, hown, hts, hK, hA⟩ := id C0
  intro H locs ls hw hl
  have ho := Option.some.inj h
  subst ho
  exact z_rtv C0 hw d_Mo_shortStack_51
set_option maxHeartbeats 4000000 in
set_option maxRecDepth 100000 in
theorem c_Mo_shortStack {l : Launch} {D : va_G} {ad : Nat → Nat} {ca : Nat → ClassId} (x1 : Int32) (q : z_Sg) (o : z_Sg) (h : f_Mo_shortStack x1 q = some o) : z_cv l y_Mo_shortStack b_Mo_shortStack 3 none 6 154 D (z_Mt ca) (z_M ad ca q) (z_M ad ca o) [.ref (ad 0), .int x1] := by
  refine z_cv_of (own := z_RMo) (by decide) rfl ?_
  intro p e s m below meth c A C0 hw
  obtain ⟨hx, hb, hr, hlk, hml, hown, hts, hK, hA⟩ := id C0
  generalize hH : s.heap = H at hw ⊢
  generalize hlo : ([] : List Loc) = locs at hw ⊢
  refine z_entry (lv := [(0, .ref (ad 0)), (1, .int x1)]) (Nat.le_of_ble_eq_true rfl) rfl (fun ls hl => ?_)
  unfold f_Mo_shortStack at h
  refine lv_iload_n hx hb d_Mo_shortStack_0 rfl (lv_at hl 1 rfl) ?_
  refine lv_bipush (v := (8 : Int32)) hx hb d_Mo_shortStack_1 (by decide) ?_
  refine lv_irem hx hb d_Mo_shortStack_3 (by decide) ?_
  refine lv_aload_n hx hb d_Mo_shortStack_4 rfl (lv_at hl 0 rfl) ?_
  refine lv_iconst (v := (1 : Int32)) hx hb d_Mo_shortStack_5 (by decide) ?_
  obtain ⟨r1, er1, h⟩ := ok_b h
  refine z_vi (rest := [.int (x1 - x1 / (8 : Int32) * (8 : Int32))]) C0 hw (c_Mo_plus (1 : Int32) q r1 er1) mw_Mo_plus ml_Mo_157 0 rfl ⟨Nat.le_of_ble_eq_true rfl, Nat.le_of_ble_eq_true rfl⟩ ⟨Nat.le_refl 0, Nat.le_refl 0⟩ rfl hl.1 rfl (Nat.le_of_ble_eq_true rfl) d_Mo_shortStack_6 (fun H locs hw => ?_)
  refine lv_iadd hx hb d_Mo_shortStack_9 ?_
  obtain ⟨n2, en2, h⟩ := ok_n h
  refine z_ti en2 ?_
  refine lv_istore_n (lv' := [(2, .int n2), (0, .ref (ad 0)), (1, .int x1)]) hx hb d_Mo_shortStack_10 rfl hl (by decide) rfl (fun ls hl => ?_)
  refine lv_iload_n hx hb d_Mo_shortStack_11 rfl (lv_at hl 2 rfl) ?_
  refine lv_bipush (v := (88 : Int32)) hx hb d_Mo_shortStack_12 (by decide) ?_
  refine lv_icmp_ge (tgt := 34) hx hb d_Mo_shortStack_14 (by decide) (fun c3 => ?_) (fun c3 => ?_)
  · have h := ok_t h c3
    refine lv_aload_n hx hb d_Mo_shortStack_34 rfl (lv_at hl 1 rfl) ?_
    refine lv_iload_n hx hb d_Mo_shortStack_35 rfl (lv_at hl 0 rfl) ?_
    refine lv_aload_n hx hb d_Mo_shortStack_36 rfl (lv_at hl 1 rfl) ?_
    obtain ⟨r4, er4, h⟩ := ok_b h
    refine z_vi (rest := [.int n2, .ref (ad 0)]) C0 hw (c_Mo_stackSize q r4 er4) mw_Mo_stackSize ml_Mo_307 0 rfl ⟨Nat.le_of_ble_eq_true rfl, Nat.le_of_ble_eq_true rfl⟩ ⟨Nat.le_refl 0, Nat.le_refl 0⟩ rfl hl.1 rfl (Nat.le_of_ble_eq_true rfl) d_Mo_shortStack_37 (fun H locs hw => ?_)
    refine lv_aload_n hx hb d_Mo_shortStack_40 rfl (lv_at hl 1 rfl) ?_
    refine lv_aload_n hx hb d_Mo_shortStack_41 rfl (lv_at hl 1 rfl) ?_
    obtain ⟨r5, er5, h⟩ := ok_b h
    refine z_vi (rest := [.ref (ad 0), .int r4, .int n2, .ref (ad 0)]) C0 hw (c_Mo_stackSize q r5 er5) mw_Mo_stackSize ml_Mo_307 0 rfl ⟨Nat.le_of_ble_eq_true rfl, Nat.le_of_ble_eq_true rfl⟩ ⟨Nat.le_refl 0, Nat.le_refl 0⟩ rfl hl.1 rfl (Nat.le_of_ble_eq_true rfl) d_Mo_shortStack_42 (fun H locs hw => ?_)
    obtain ⟨r6, er6, h⟩ := ok_b h
    refine z_vl (rest := [.int r4, .int n2, .ref (ad 0)]) C0 hw (c_Mo_pop r5 q r6 er6) mw_Mo_pop ml_Mo_313 0 rfl ⟨Nat.le_of_ble_eq_true rfl, Nat.le_of_ble_eq_true rfl⟩ ⟨Nat.le_refl 0, Nat.le_refl 0⟩ rfl hl.1 rfl (Nat.le_of_ble_eq_true rfl) d_Mo_shortStack_45 (fun H locs hw => ?_)
    obtain ⟨r7, er7, h⟩ := ok_b h
    refine z_vv (rest := []) C0 hw (c_Mo_put8 n2 r4 r6.1 r6.2 r7 er7) mw_Mo_put8 ml_Mo_189 0 rfl ⟨Nat.le_of_ble_eq_true rfl, Nat.le_of_ble_eq_true rfl⟩ ⟨Nat.le_refl 0, Nat.le_refl 0⟩ rfl hl.1 rfl (Nat.le_of_ble_eq_true rfl) d_Mo_shortStack_48 (fun H locs hw => ?_)
    exact w_Mo_shortStack_51 o C0 r7 h H locs ls hw (lv_sub hl [] rfl)
  · have h := ok_f h c3
    refine lv_aload_n hx hb d_Mo_shortStack_17 rfl (lv_at hl 1 rfl) ?_
    refine lv_aload_n hx hb d_Mo_shortStack_18 rfl (lv_at hl 1 rfl) ?_
    refine gfM_0_r C0 hw fl_Mo_14 d_Mo_shortStack_19 ?_
    refine lv_iload_n hx hb d_Mo_shortStack_22 rfl (lv_at hl 0 rfl) ?_
    obtain ⟨b8, h⟩ := ok_g h
    refine alM_2 C0 hw b8 d_Mo_shortStack_23 ?_
    refine lv_aload_n hx hb d_Mo_shortStack_24 rfl (lv_at hl 1 rfl) ?_
    obtain ⟨r9, er9, h⟩ := ok_b h
    refine z_vi (rest := [.long (z_gM q 0 n2.toNatClampNeg), .ref (ad 0)]) C0 hw (c_Mo_stackSize q r9 er9) mw_Mo_stackSize ml_Mo_307 0 rfl ⟨Nat.le_of_ble_eq_true rfl, Nat.le_of_ble_eq_true rfl⟩ ⟨Nat.le_refl 0, Nat.le_refl 0⟩ rfl hl.1 rfl (Nat.le_of_ble_eq_true rfl) d_Mo_shortStack_25 (fun H locs hw => ?_)
    obtain ⟨r10, er10, h⟩ := ok_b h
    refine z_vv (rest := []) C0 hw (c_Mo_push (z_gM q 0 n2.toNatClampNeg) r9 q r10 er10) mw_Mo_push ml_Mo_310 0 rfl ⟨Nat.le_of_ble_eq_true rfl, Nat.le_of_ble_eq_true rfl⟩ ⟨Nat.le_refl 0, Nat.le_refl 0⟩ rfl hl.1 rfl (Nat.le_of_ble_eq_true rfl) d_Mo_shortStack_28 (fun H locs hw => ?_)
    refine lv_goto (tgt := 51) hx hb d_Mo_shortStack_31 (by decide) ?_
    exact w_Mo_shortStack_51 o C0 r10 h H locs ls hw (lv_sub hl [] rfl)
def k_Mo_arithmetic_160 (q : z_Sg) : Option z_Sg :=
  some q
def k_Mo_arithmetic_121 (q : z_Sg) : Option z_Sg :=
  k_Mo_arithmetic_160 q
def k_Mo_arithmetic_88 (x1 : Int32) (x3 : Int32) (t1 : Int32) (t2 : Int32) (q : z_Sg) : Option z_Sg :=
  (f_Mo_e t1 t2 q).bind (fun r12 => (f_Mo_g x3 r12.2).bind (fun r13 => (f_Mo_reckon x1 r12.1 r13 x3 r12.2).bind (fun r14 => if x1 = (7 : Int32) then (k_Mo_arithmetic_121 r14.2) else ((f_Mo_setE x3 r14.1 r14.2).bind (fun r16 => k_Mo_arithmetic_121 r16)))))
def k_Mo_arithmetic_63 (q : z_Sg) : Option z_Sg :=
  k_Mo_arithmetic_160 q
def f_Mo_arithmetic (x1 : Int32) (x2 : Int32) (x3 : Int32) (q : z_Sg) : Option z_Sg :=
  if x2 ≤ (5 : Int32) then (if x2 ≤ (3 : Int32) then (if (2 : Int32) ≤ x2 then ((f_Mo_takeOperand q).bind (fun r4 => (f_Mo_g x3 r4).bind (fun r5 => (f_Mo_e x3 (0 : Int32) r4).bind (fun r6 => (f_Mo_reckon x1 r5 r6.1 x3 r6.2).bind (fun r7 => if x1 = (7 : Int32) then (k_Mo_arithmetic_160 r7.2) else ((f_Mo_setG x3 r7.1 r7.2).bind (fun r9 => k_Mo_arithmetic_160 r9))))))) else ((f_Mo_takeOperand q).bind (fun r10 => if x1 = (7 : Int32) then (k_Mo_arithmetic_88 x1 x3 x3 (0 : Int32) r10) else (k_Mo_arithmetic_88 x1 x3 x3 (1 : Int32) r10)))) else ((f_Mo_four x3 q).bind (fun r17 => (f_Mo_number r17 q).bind (fun r18 => (f_Mo_get8 (0 : Int32) x3 r18.2).bind (fun r19 => (f_Mo_lowest r18.1 x3 r18.2).bind (fun r20 => (f_Mo_reckon x1 r19 r20 x3 r18.2).bind (fun r21 => if x1 = (7 : Int32) then (k_Mo_arithmetic_63 r21.2) else ((f_Mo_put8 (0 : Int32) x3 r21.1 r21.2).bind (fun r23 => k_Mo_arithmetic_63 r23))))))))) else ((f_Mo_refuse (6 : Int32) q).bind (fun r24 => k_Mo_arithmetic_160 r24))
set_option maxHeartbeats 4000000 in
set_option maxRecDepth 100000 in
theorem w_Mo_arithmetic_160 {p : Program} {l : Launch} {e : Env} {s : State} {m : MethodId} {args : Array Value} {below : List Frame} {meth : Method} {c : Code} {D : va_G} {A : Nat → Prop} {ad : Nat → Nat} {ca : Nat → ClassId} (o : z_Sg) (C0 : z_cx z_RMo b_Mo_arithmetic 8 none D (z_Mt ca) A p s m args meth c) (q : z_Sg) (h : k_Mo_arithmetic_160 q = some o) : ∀ (H : Heap) (locs : List Loc) (ls : Array Slot), z_wd D (z_M ad ca q) A s H locs → lv_has ls 8 [] → W p l e (z_rm 8 193) s m args below meth c H locs 0 0 (z_qv below D (z_Mt ca) (z_M ad ca o) A s args) (F0 m 160 ls []) := by
  obtain ⟨hx, hb, hr, hlk, hml, hown, hts, hK, hA⟩ := id C0
  intro H locs ls hw hl
  have ho := Option.some.inj h
  subst ho
  exact z_rtv C0 hw d_Mo_arithmetic_160
set_option maxHeartbeats 4000000 in
set_option maxRecDepth 100000 in
theorem w_Mo_arithmetic_121 {p : Program} {l : Launch} {e : Env} {s : State} {m : MethodId} {args : Array Value} {below : List Frame} {meth : Method} {c : Code} {D : va_G} {A : Nat → Prop} {ad : Nat → Nat} {ca : Nat → ClassId} (o : z_Sg) (C0 : z_cx z_RMo b_Mo_arithmetic 8 none D (z_Mt ca) A p s m args meth c) (q : z_Sg) (h : k_Mo_arithmetic_121 q = some o) : ∀ (H : Heap) (locs : List Loc) (ls : Array Slot), z_wd D (z_M ad ca q) A s H locs → lv_has ls 8 [] → W p l e (z_rm 8 193) s m args below meth c H locs 0 0 (z_qv below D (z_Mt ca) (z_M ad ca o) A s args) (F0 m 121 ls []) := by
  obtain ⟨hx, hb, hr, hlk, hml, hown, hts, hK, hA⟩ := id C0
  intro H locs ls hw hl
  refine lv_goto (tgt := 160) hx hb d_Mo_arithmetic_121 (by decide) ?_
  exact w_Mo_arithmetic_160 o C0 q h H locs ls hw (lv_sub hl [] rfl)
set_option maxHeartbeats 4000000 in
set_option maxRecDepth 100000 in
theorem w_Mo_arithmetic_88 {p : Program} {l : Launch} {e : Env} {s : State} {m : MethodId} {args : Array Value} {below : List Frame} {meth : Method} {c : Code} {D : va_G} {A : Nat → Prop} {ad : Nat → Nat} {ca : Nat → ClassId} (o : z_Sg) (C0 : z_cx z_RMo b_Mo_arithmetic 8 none D (z_Mt ca) A p s m args meth c) (q : z_Sg) (x1 : Int32) (x3 : Int32) (t1 : Int32) (t2 : Int32) (h : k_Mo_arithmetic_88 x1 x3 t1 t2 q = some o) : ∀ (H : Heap) (locs : List Loc) (ls : Array Slot), z_wd D (z_M ad ca q) A s H locs → lv_has ls 8 [(0, .ref (ad 0)), (1, .int x1), (3, .int x3)] → W p l e (z_rm 8 193) s m args below meth c H locs 0 0 (z_qv below D (z_Mt ca) (z_M ad ca o) A s args) (F0 m 88 ls [.int t2, .int t1, .ref (ad 0)]) := by
  obtain ⟨hx, hb, hr, hlk, hml, hown, hts, hK, hA⟩ := id C0
  intro H locs ls hw hl
  obtain ⟨r12, er12, h⟩ := ok_b h
  refine z_vl (rest := []) C0 hw (c_Mo_e t1 t2 q r12 er12) mw_Mo_e ml_Mo_338 0 rfl ⟨Nat.le_of_ble_eq_true rfl, Nat.le_of_ble_eq_true rfl⟩ ⟨Nat.le_refl 0, Nat.le_refl 0⟩ rfl hl.1 rfl (Nat.le_of_ble_eq_true rfl) d_Mo_arithmetic_88 (fun H locs hw => ?_)
  refine lv_lstore (lv' := [(4, .long r12.1), (0, .ref (ad 0)), (1, .int x1), (3, .int x3)]) hx hb d_Mo_arithmetic_91 hl (by decide) rfl (fun ls hl => ?_)
  refine lv_aload_n hx hb d_Mo_arithmetic_93 rfl (lv_at hl 1 rfl) ?_
  refine lv_iload_n hx hb d_Mo_arithmetic_94 rfl (lv_at hl 2 rfl) ?_
  refine lv_lload hx hb d_Mo_arithmetic_95 (lv_at hl 0 rfl) ?_
  refine lv_aload_n hx hb d_Mo_arithmetic_97 rfl (lv_at hl 1 rfl) ?_
  refine lv_iload_n hx hb d_Mo_arithmetic_98 rfl (lv_at hl 3 rfl) ?_
  obtain ⟨r13, er13, h⟩ := ok_b h
  refine z_vl (rest := [.long r12.1, .int x1, .ref (ad 0)]) C0 hw (c_Mo_g x3 r12.2 r13 er13) mw_Mo_g ml_Mo_341 0 rfl ⟨Nat.le_of_ble_eq_true rfl, Nat.le_of_ble_eq_true rfl⟩ ⟨Nat.le_refl 0, Nat.le_refl 0⟩ rfl hl.1 rfl (Nat.le_of_ble_eq_true rfl) d_Mo_arithmetic_99 (fun H locs hw => ?_)
  refine lv_iload_n hx hb d_Mo_arithmetic_102 rfl (lv_at hl 3 rfl) ?_
  obtain ⟨r14, er14, h⟩ := ok_b h
  refine z_vl (rest := []) C0 hw (c_Mo_reckon x1 r12.1 r13 x3 r12.2 r14 er14) mw_Mo_reckon ml_Mo_376 0 rfl ⟨Nat.le_of_ble_eq_true rfl, Nat.le_of_ble_eq_true rfl⟩ ⟨Nat.le_refl 0, Nat.le_refl 0⟩ rfl hl.1 rfl (Nat.le_of_ble_eq_true rfl) d_Mo_arithmetic_103 (fun H locs hw => ?_)
  refine lv_lstore (lv' := [(6, .long r14.1), (4, .long r12.1), (0, .ref (ad 0)), (1, .int x1), (3, .int x3)]) hx hb d_Mo_arithmetic_106 hl (by decide) rfl (fun ls hl => ?_)
  refine lv_iload_n hx hb d_Mo_arithmetic_108 rfl (lv_at hl 3 rfl) ?_
  refine lv_bipush (v := (7 : Int32)) hx hb d_Mo_arithmetic_109 (by decide) ?_
  refine lv_icmp_eq (tgt := 121) hx hb d_Mo_arithmetic_111 (by decide) (fun c15 => ?_) (fun c15 => ?_)
  · have h := ok_t h c15
    exact w_Mo_arithmetic_121 o C0 r14.2 h H locs ls hw (lv_sub hl [] rfl)
  · have h := ok_f h c15
    refine lv_aload_n hx hb d_Mo_arithmetic_114 rfl (lv_at hl 2 rfl) ?_
    refine lv_iload_n hx hb d_Mo_arithmetic_115 rfl (lv_at hl 4 rfl) ?_
    refine lv_lload hx hb d_Mo_arithmetic_116 (lv_at hl 0 rfl) ?_
    obtain ⟨r16, er16, h⟩ := ok_b h
    refine z_vv (rest := []) C0 hw (c_Mo_setE x3 r14.1 r14.2 r16 er16) mw_Mo_setE ml_Mo_348 0 rfl ⟨Nat.le_of_ble_eq_true rfl, Nat.le_of_ble_eq_true rfl⟩ ⟨Nat.le_refl 0, Nat.le_refl 0⟩ rfl hl.1 rfl (Nat.le_of_ble_eq_true rfl) d_Mo_arithmetic_118 (fun H locs hw => ?_)
    exact w_Mo_arithmetic_121 o C0 r16 h H locs ls hw (lv_sub hl [] rfl)
set_option maxHeartbeats 4000000 in
set_option maxRecDepth 100000 in
theorem w_Mo_arithmetic_63 {p : Program} {l : Launch} {e : Env} {s : State} {m : MethodId} {args : Array Value} {below : List Frame} {meth : Method} {c : Code} {D : va_G} {A : Nat → Prop} {ad : Nat → Nat} {ca : Nat → ClassId} (o : z_Sg) (C0 : z_cx z_RMo b_Mo_arithmetic 8 none D (z_Mt ca) A p s m args meth c) (q : z_Sg) (h : k_Mo_arithmetic_63 q = some o) : ∀ (H : Heap) (locs : List Loc) (ls : Array Slot), z_wd D (z_M ad ca q) A s H locs → lv_has ls 8 [] → W p l e (z_rm 8 193) s m args below meth c H locs 0 0 (z_qv below D (z_Mt ca) (z_M ad ca o) A s args) (F0 m 63 ls []) := by
  obtain ⟨hx, hb, hr, hlk, hml, hown, hts, hK, hA⟩ := id C0
  intro H locs ls hw hl
  refine lv_goto (tgt := 160) hx hb d_Mo_arithmetic_63 (by decide) ?_
  exact w_Mo_arithmetic_160 o C0 q h H locs ls hw (lv_sub hl [] rfl)
set_option maxHeartbeats 4000000 in
set_option maxRecDepth 100000 in
theorem c_Mo_arithmetic {l : Launch} {D : va_G} {ad : Nat → Nat} {ca : Nat → ClassId} (x1 : Int32) (x2 : Int32) (x3 : Int32) (q : z_Sg) (o : z_Sg) (h : f_Mo_arithmetic x1 x2 x3 q = some o) : z_cv l y_Mo_arithmetic b_Mo_arithmetic 8 none 8 193 D (z_Mt ca) (z_M ad ca q) (z_M ad ca o) [.ref (ad 0), .int x1, .int x2, .int x3] := by
  refine z_cv_of (own := z_RMo) (by decide) rfl ?_
  intro p e s m below meth c A C0 hw
  obtain ⟨hx, hb, hr, hlk, hml, hown, hts, hK, hA⟩ := id C0
  generalize hH : s.heap = H at hw ⊢
  generalize hlo : ([] : List Loc) = locs at hw ⊢
  refine z_entry (lv := [(0, .ref (ad 0)), (1, .int x1), (2, .int x2), (3, .int x3)]) (Nat.le_of_ble_eq_true rfl) rfl (fun ls hl => ?_)
  unfold f_Mo_arithmetic at h
  refine lv_iload_n hx hb d_Mo_arithmetic_0 rfl (lv_at hl 2 rfl) ?_
  refine lv_iconst (v := (5 : Int32)) hx hb d_Mo_arithmetic_1 (by decide) ?_
  refine lv_icmp_le (tgt := 14) hx hb d_Mo_arithmetic_2 (by decide) (fun c1 => ?_) (fun c1 => ?_)
  · have h := ok_t h c1
    refine lv_iload_n hx hb d_Mo_arithmetic_14 rfl (lv_at hl 2 rfl) ?_
    refine lv_iconst (v := (3 : Int32)) hx hb d_Mo_arithmetic_15 (by decide) ?_
    refine lv_icmp_le (tgt := 66) hx hb d_Mo_arithmetic_16 (by decide) (fun c2 => ?_) (fun c2 => ?_)
    · have h := ok_t h c2
      refine lv_iload_n hx hb d_Mo_arithmetic_66 rfl (lv_at hl 2 rfl) ?_
      refine lv_iconst (v := (2 : Int32)) hx hb d_Mo_arithmetic_67 (by decide) ?_
      refine lv_icmp_ge (tgt := 124) hx hb d_Mo_arithmetic_68 (by decide) (fun c3 => ?_) (fun c3 => ?_)
      · have h := ok_t h c3
        refine lv_aload_n hx hb d_Mo_arithmetic_124 rfl (lv_at hl 0 rfl) ?_
        obtain ⟨r4, er4, h⟩ := ok_b h
        refine z_vv (rest := []) C0 hw (c_Mo_takeOperand q r4 er4) mw_Mo_takeOperand ml_Mo_335 0 rfl ⟨Nat.le_of_ble_eq_true rfl, Nat.le_of_ble_eq_true rfl⟩ ⟨Nat.le_refl 0, Nat.le_refl 0⟩ rfl hl.1 rfl (Nat.le_of_ble_eq_true rfl) d_Mo_arithmetic_125 (fun H locs hw => ?_)
        refine lv_aload_n hx hb d_Mo_arithmetic_128 rfl (lv_at hl 0 rfl) ?_
        refine lv_iload_n hx hb d_Mo_arithmetic_129 rfl (lv_at hl 1 rfl) ?_
        refine lv_aload_n hx hb d_Mo_arithmetic_130 rfl (lv_at hl 0 rfl) ?_
        refine lv_iload_n hx hb d_Mo_arithmetic_131 rfl (lv_at hl 3 rfl) ?_
        obtain ⟨r5, er5, h⟩ := ok_b h
        refine z_vl (rest := [.int x1, .ref (ad 0)]) C0 hw (c_Mo_g x3 r4 r5 er5) mw_Mo_g ml_Mo_341 0 rfl ⟨Nat.le_of_ble_eq_true rfl, Nat.le_of_ble_eq_true rfl⟩ ⟨Nat.le_refl 0, Nat.le_refl 0⟩ rfl hl.1 rfl (Nat.le_of_ble_eq_true rfl) d_Mo_arithmetic_132 (fun H locs hw => ?_)
        refine lv_aload_n hx hb d_Mo_arithmetic_135 rfl (lv_at hl 0 rfl) ?_
        refine lv_iload_n hx hb d_Mo_arithmetic_136 rfl (lv_at hl 3 rfl) ?_
        refine lv_iconst (v := (0 : Int32)) hx hb d_Mo_arithmetic_137 (by decide) ?_
        obtain ⟨r6, er6, h⟩ := ok_b h
        refine z_vl (rest := [.long r5, .int x1, .ref (ad 0)]) C0 hw (c_Mo_e x3 (0 : Int32) r4 r6 er6) mw_Mo_e ml_Mo_338 0 rfl ⟨Nat.le_of_ble_eq_true rfl, Nat.le_of_ble_eq_true rfl⟩ ⟨Nat.le_refl 0, Nat.le_refl 0⟩ rfl hl.1 rfl (Nat.le_of_ble_eq_true rfl) d_Mo_arithmetic_138 (fun H locs hw => ?_)
        refine lv_iload_n hx hb d_Mo_arithmetic_141 rfl (lv_at hl 3 rfl) ?_
        obtain ⟨r7, er7, h⟩ := ok_b h
        refine z_vl (rest := []) C0 hw (c_Mo_reckon x1 r5 r6.1 x3 r6.2 r7 er7) mw_Mo_reckon ml_Mo_376 0 rfl ⟨Nat.le_of_ble_eq_true rfl, Nat.le_of_ble_eq_true rfl⟩ ⟨Nat.le_refl 0, Nat.le_refl 0⟩ rfl hl.1 rfl (Nat.le_of_ble_eq_true rfl) d_Mo_arithmetic_142 (fun H locs hw => ?_)
        refine lv_lstore (lv' := [(4, .long r7.1), (0, .ref (ad 0)), (1, .int x1), (2, .int x2), (3, .int x3)]) hx hb d_Mo_arithmetic_145 hl (by decide) rfl (fun ls hl => ?_)
        refine lv_iload_n hx hb d_Mo_arithmetic_147 rfl (lv_at hl 2 rfl) ?_
        refine lv_bipush (v := (7 : Int32)) hx hb d_Mo_arithmetic_148 (by decide) ?_
        refine lv_icmp_eq (tgt := 160) hx hb d_Mo_arithmetic_150 (by decide) (fun c8 => ?_) (fun c8 => ?_)
        · have h := ok_t h c8
          exact w_Mo_arithmetic_160 o C0 r7.2 h H locs ls hw (lv_sub hl [] rfl)
        · have h := ok_f h c8
          refine lv_aload_n hx hb d_Mo_arithmetic_153 rfl (lv_at hl 1 rfl) ?_
          refine lv_iload_n hx hb d_Mo_arithmetic_154 rfl (lv_at hl 4 rfl) ?_
          refine lv_lload hx hb d_Mo_arithmetic_155 (lv_at hl 0 rfl) ?_
          obtain ⟨r9, er9, h⟩ := ok_b h
          refine z_vv (rest := []) C0 hw (c_Mo_setG x3 r7.1 r7.2 r9 er9) mw_Mo_setG ml_Mo_344 0 rfl ⟨Nat.le_of_ble_eq_true rfl, Nat.le_of_ble_eq_true rfl⟩ ⟨Nat.le_refl 0, Nat.le_refl 0⟩ rfl hl.1 rfl (Nat.le_of_ble_eq_true rfl) d_Mo_arithmetic_157 (fun H locs hw => ?_)
          exact w_Mo_arithmetic_160 o C0 r9 h H locs ls hw (lv_sub hl [] rfl)
      · have h := ok_f h c3
        refine lv_aload_n hx hb d_Mo_arithmetic_71 rfl (lv_at hl 0 rfl) ?_
        obtain ⟨r10, er10, h⟩ := ok_b h
        refine z_vv (rest := []) C0 hw (c_Mo_takeOperand q r10 er10) mw_Mo_takeOperand ml_Mo_335 0 rfl ⟨Nat.le_of_ble_eq_true rfl, Nat.le_of_ble_eq_true rfl⟩ ⟨Nat.le_refl 0, Nat.le_refl 0⟩ rfl hl.1 rfl (Nat.le_of_ble_eq_true rfl) d_Mo_arithmetic_72 (fun H locs hw => ?_)
        refine lv_aload_n hx hb d_Mo_arithmetic_75 rfl (lv_at hl 0 rfl) ?_
        refine lv_iload_n hx hb d_Mo_arithmetic_76 rfl (lv_at hl 3 rfl) ?_
        refine lv_iload_n hx hb d_Mo_arithmetic_77 rfl (lv_at hl 1 rfl) ?_
        refine lv_bipush (v := (7 : Int32)) hx hb d_Mo_arithmetic_78 (by decide) ?_
        refine lv_icmp_ne (tgt := 87) hx hb d_Mo_arithmetic_80 (by decide) (fun c11 => ?_) (fun c11 => ?_)
        · have h := ok_f h c11
          refine lv_iconst (v := (1 : Int32)) hx hb d_Mo_arithmetic_87 (by decide) ?_
          exact w_Mo_arithmetic_88 o C0 r10 x1 x3 x3 (1 : Int32) h H locs ls hw (lv_sub hl [0, 1, 3] rfl)
        · have h := ok_t h c11
          refine lv_iconst (v := (0 : Int32)) hx hb d_Mo_arithmetic_83 (by decide) ?_
          refine lv_goto (tgt := 88) hx hb d_Mo_arithmetic_84 (by decide) ?_
          exact w_Mo_arithmetic_88 o C0 r10 x1 x3 x3 (0 : Int32) h H locs ls hw (lv_sub hl [0, 1, 3] rfl)
    · have h := ok_f h c2
      refine lv_aload_n hx hb d_Mo_arithmetic_19 rfl (lv_at hl 0 rfl) ?_
      refine lv_iload_n hx hb d_Mo_arithmetic_20 rfl (lv_at hl 3 rfl) ?_
      obtain ⟨r17, er17, h⟩ := ok_b h
      refine z_si (rest := [.ref (ad 0)]) C0 hw (c_Mo_four x3 q r17 er17) mw_Mo_four ml_Mo_370 ⟨Nat.le_of_ble_eq_true rfl, Nat.le_of_ble_eq_true rfl⟩ ⟨Nat.le_refl 0, Nat.le_refl 0⟩ rfl hl.1 rfl (Nat.le_of_ble_eq_true rfl) d_Mo_arithmetic_21 (fun H locs hw => ?_)
      obtain ⟨r18, er18, h⟩ := ok_b h
      refine z_vl (rest := []) C0 hw (c_Mo_number r17 q r18 er18) mw_Mo_number ml_Mo_373 0 rfl ⟨Nat.le_of_ble_eq_true rfl, Nat.le_of_ble_eq_true rfl⟩ ⟨Nat.le_refl 0, Nat.le_refl 0⟩ rfl hl.1 rfl (Nat.le_of_ble_eq_true rfl) d_Mo_arithmetic_24 (fun H locs hw => ?_)
      refine lv_lstore (lv' := [(4, .long r18.1), (0, .ref (ad 0)), (1, .int x1), (2, .int x2), (3, .int x3)]) hx hb d_Mo_arithmetic_27 hl (by decide) rfl (fun ls hl => ?_)
      refine lv_aload_n hx hb d_Mo_arithmetic_29 rfl (lv_at hl 1 rfl) ?_
      refine lv_iload_n hx hb d_Mo_arithmetic_30 rfl (lv_at hl 2 rfl) ?_
      refine lv_aload_n hx hb d_Mo_arithmetic_31 rfl (lv_at hl 1 rfl) ?_
      refine lv_iconst (v := (0 : Int32)) hx hb d_Mo_arithmetic_32 (by decide) ?_
      refine lv_iload_n hx hb d_Mo_arithmetic_33 rfl (lv_at hl 4 rfl) ?_
      obtain ⟨r19, er19, h⟩ := ok_b h
      refine z_vl (rest := [.int x1, .ref (ad 0)]) C0 hw (c_Mo_get8 (0 : Int32) x3 r18.2 r19 er19) mw_Mo_get8 ml_Mo_185 0 rfl ⟨Nat.le_of_ble_eq_true rfl, Nat.le_of_ble_eq_true rfl⟩ ⟨Nat.le_refl 0, Nat.le_refl 0⟩ rfl hl.1 rfl (Nat.le_of_ble_eq_true rfl) d_Mo_arithmetic_34 (fun H locs hw => ?_)
      refine lv_lload hx hb d_Mo_arithmetic_37 (lv_at hl 0 rfl) ?_
      refine lv_iload_n hx hb d_Mo_arithmetic_39 rfl (lv_at hl 4 rfl) ?_
      obtain ⟨r20, er20, h⟩ := ok_b h
      refine z_sl (rest := [.long r19, .int x1, .ref (ad 0)]) C0 hw (c_Mo_lowest r18.1 x3 r18.2 r20 er20) mw_Mo_lowest ml_Mo_180 ⟨Nat.le_of_ble_eq_true rfl, Nat.le_of_ble_eq_true rfl⟩ ⟨Nat.le_refl 0, Nat.le_refl 0⟩ rfl hl.1 rfl (Nat.le_of_ble_eq_true rfl) d_Mo_arithmetic_40 (fun H locs hw => ?_)
      refine lv_iload_n hx hb d_Mo_arithmetic_43 rfl (lv_at hl 4 rfl) ?_
      obtain ⟨r21, er21, h⟩ := ok_b h
      refine z_vl (rest := []) C0 hw (c_Mo_reckon x1 r19 r20 x3 r18.2 r21 er21) mw_Mo_reckon ml_Mo_376 0 rfl ⟨Nat.le_of_ble_eq_true rfl, Nat.le_of_ble_eq_true rfl⟩ ⟨Nat.le_refl 0, Nat.le_refl 0⟩ rfl hl.1 rfl (Nat.le_of_ble_eq_true rfl) d_Mo_arithmetic_44 (fun H locs hw => ?_)
      refine lv_lstore (lv' := [(6, .long r21.1), (4, .long r18.1), (0, .ref (ad 0)), (1, .int x1), (2, .int x2), (3, .int x3)]) hx hb d_Mo_arithmetic_47 hl (by decide) rfl (fun ls hl => ?_)
      refine lv_iload_n hx hb d_Mo_arithmetic_49 rfl (lv_at hl 3 rfl) ?_
      refine lv_bipush (v := (7 : Int32)) hx hb d_Mo_arithmetic_50 (by decide) ?_
      refine lv_icmp_eq (tgt := 63) hx hb d_Mo_arithmetic_52 (by decide) (fun c22 => ?_) (fun c22 => ?_)
      · have h := ok_t h c22
        exact w_Mo_arithmetic_63 o C0 r21.2 h H locs ls hw (lv_sub hl [] rfl)
      · have h := ok_f h c22
        refine lv_aload_n hx hb d_Mo_arithmetic_55 rfl (lv_at hl 2 rfl) ?_
        refine lv_iconst (v := (0 : Int32)) hx hb d_Mo_arithmetic_56 (by decide) ?_
        refine lv_iload_n hx hb d_Mo_arithmetic_57 rfl (lv_at hl 5 rfl) ?_
        refine lv_lload hx hb d_Mo_arithmetic_58 (lv_at hl 0 rfl) ?_
        obtain ⟨r23, er23, h⟩ := ok_b h
        refine z_vv (rest := []) C0 hw (c_Mo_put8 (0 : Int32) x3 r21.1 r21.2 r23 er23) mw_Mo_put8 ml_Mo_189 0 rfl ⟨Nat.le_of_ble_eq_true rfl, Nat.le_of_ble_eq_true rfl⟩ ⟨Nat.le_refl 0, Nat.le_refl 0⟩ rfl hl.1 rfl (Nat.le_of_ble_eq_true rfl) d_Mo_arithmetic_60 (fun H locs hw => ?_)
        exact w_Mo_arithmetic_63 o C0 r23 h H locs ls hw (lv_sub hl [] rfl)
  · have h := ok_f h c1
    refine lv_aload_n hx hb d_Mo_arithmetic_5 rfl (lv_at hl 0 rfl) ?_
    refine lv_bipush (v := (6 : Int32)) hx hb d_Mo_arithmetic_6 (by decide) ?_
    obtain ⟨r24, er24, h⟩ := ok_b h
    refine z_vv (rest := []) C0 hw (c_Mo_refuse (6 : Int32) q r24 er24) mw_Mo_refuse ml_Mo_81 0 rfl ⟨Nat.le_of_ble_eq_true rfl, Nat.le_of_ble_eq_true rfl⟩ ⟨Nat.le_refl 0, Nat.le_refl 0⟩ rfl hl.1 rfl (Nat.le_of_ble_eq_true rfl) d_Mo_arithmetic_8 (fun H locs hw => ?_)
    refine lv_goto (tgt := 160) hx hb d_Mo_arithmetic_11 (by decide) ?_
    exact w_Mo_arithmetic_160 o C0 r24 h H locs ls hw (lv_sub hl [] rfl)
def k_Mo_first_415 (q : z_Sg) : Option z_Sg :=
  some q
def k_Mo_first_88 (x1 : Int32) (x2 : Int32) (q : z_Sg) : Option z_Sg :=
  (f_Mo_group x1 x2 q).bind (fun r5 => k_Mo_first_415 r5)
def k_Mo_first_233 (x1 : Int32) (x2 : Int32) (q : z_Sg) : Option z_Sg :=
  (f_Mo_shift x1 x2 q).bind (fun r13 => k_Mo_first_415 r13)
def k_Mo_first_326 (t1 : Int32) (t2 : Int32) (q : z_Sg) : Option z_Sg :=
  if z_bad t1 7 then none else (z_nm (z_sN q 1 t1.toNatClampNeg (vp_nar .boolean t2)) (fun q21 => k_Mo_first_415 q21))
def k_Mo_first_285 (x1 : Int32) (q : z_Sg) : Option z_Sg :=
  if x1 = (245 : Int32) then (if z_bad (0 : Int32) 7 then none else (if (z_gN q 1 (0 : Int32).toNatClampNeg) = 0 then (k_Mo_first_326 (0 : Int32) (1 : Int32) q) else (k_Mo_first_326 (0 : Int32) (0 : Int32) q))) else (if x1 = (249 : Int32) then (k_Mo_first_326 (0 : Int32) (1 : Int32) q) else (k_Mo_first_326 (0 : Int32) (0 : Int32) q))
def k_Mo_first_361 (t1 : Int32) (t2 : Int32) (q : z_Sg) : Option z_Sg :=
  if z_bad t1 7 then none else (z_nm (z_sN q 1 t1.toNatClampNeg (vp_nar .boolean t2)) (fun q29 => k_Mo_first_415 q29))
def k_Mo_first_344 (x1 : Int32) (q : z_Sg) : Option z_Sg :=
  if x1 = (253 : Int32) then (k_Mo_first_361 (5 : Int32) (1 : Int32) q) else (k_Mo_first_361 (5 : Int32) (0 : Int32) q)
def k_Mo_first_379 (x2 : Int32) (q : z_Sg) : Option z_Sg :=
  (f_Mo_unary x2 q).bind (fun r32 => k_Mo_first_415 r32)
def k_Mo_first_401 (x2 : Int32) (q : z_Sg) : Option z_Sg :=
  (f_Mo_more x2 q).bind (fun r35 => k_Mo_first_415 r35)
def k_Mo_first_264 (x1 : Int32) (x2 : Int32) (q : z_Sg) : Option z_Sg :=
  if x1 = (245 : Int32) then (k_Mo_first_285 x1 q) else (if x1 = (248 : Int32) then (k_Mo_first_285 x1 q) else (if x1 = (249 : Int32) then (k_Mo_first_285 x1 q) else (if x1 = (252 : Int32) then (k_Mo_first_344 x1 q) else (if x1 = (253 : Int32) then (k_Mo_first_344 x1 q) else (if x1 = (246 : Int32) then (k_Mo_first_379 x2 q) else (if x1 = (247 : Int32) then (k_Mo_first_379 x2 q) else (if x1 = (254 : Int32) then (k_Mo_first_401 x2 q) else (if x1 = (255 : Int32) then (k_Mo_first_401 x2 q) else ((f_Mo_others x1 x2 q).bind (fun r37 => k_Mo_first_415 r37))))))))))
def k_Mo_first_242 (x1 : Int32) (x2 : Int32) (q : z_Sg) : Option z_Sg :=
  if x1 < (224 : Int32) then (k_Mo_first_264 x1 x2 q) else (if (227 : Int32) < x1 then (k_Mo_first_264 x1 x2 q) else ((f_Mo_loop x1 q).bind (fun r39 => k_Mo_first_415 r39)))
def k_Mo_first_205 (x1 : Int32) (x2 : Int32) (q : z_Sg) : Option z_Sg :=
  if x1 = (192 : Int32) then (k_Mo_first_233 x1 x2 q) else (if x1 = (193 : Int32) then (k_Mo_first_233 x1 x2 q) else (if x1 < (208 : Int32) then (k_Mo_first_242 x1 x2 q) else (if (211 : Int32) < x1 then (k_Mo_first_242 x1 x2 q) else (k_Mo_first_233 x1 x2 q))))
def k_Mo_first_183 (x1 : Int32) (x2 : Int32) (q : z_Sg) : Option z_Sg :=
  if x1 < (176 : Int32) then (k_Mo_first_205 x1 x2 q) else (if (191 : Int32) < x1 then (k_Mo_first_205 x1 x2 q) else ((f_Mo_immediate x1 q).bind (fun r42 => k_Mo_first_415 r42)))
def k_Mo_first_142 (x1 : Int32) (x2 : Int32) (q : z_Sg) : Option z_Sg :=
  if x1 < (164 : Int32) then (k_Mo_first_183 x1 x2 q) else (if (175 : Int32) < x1 then (k_Mo_first_183 x1 x2 q) else (if x1 = (168 : Int32) then (k_Mo_first_183 x1 x2 q) else (if x1 = (169 : Int32) then (k_Mo_first_183 x1 x2 q) else ((f_Mo_string (x1 &&& (254 : Int32)) x2 q).bind (fun r46 => k_Mo_first_415 r46)))))
def k_Mo_first_120 (x1 : Int32) (x2 : Int32) (q : z_Sg) : Option z_Sg :=
  if x1 < (144 : Int32) then (k_Mo_first_142 x1 x2 q) else (if (153 : Int32) < x1 then (k_Mo_first_142 x1 x2 q) else ((f_Mo_turn x1 q).bind (fun r48 => k_Mo_first_415 r48)))
def k_Mo_first_67 (x1 : Int32) (x2 : Int32) (q : z_Sg) : Option z_Sg :=
  if x1 = (128 : Int32) then (k_Mo_first_88 x1 x2 q) else (if x1 = (129 : Int32) then (k_Mo_first_88 x1 x2 q) else (if x1 = (131 : Int32) then (k_Mo_first_88 x1 x2 q) else (if x1 < (132 : Int32) then (k_Mo_first_120 x1 x2 q) else (if (139 : Int32) < x1 then (k_Mo_first_120 x1 x2 q) else ((f_Mo_move x1 x2 q).bind (fun r50 => k_Mo_first_415 r50))))))
def k_Mo_first_42 (x1 : Int32) (x2 : Int32) (q : z_Sg) : Option z_Sg :=
  if x1 < (112 : Int32) then (k_Mo_first_67 x1 x2 q) else (if (127 : Int32) < x1 then (k_Mo_first_67 x1 x2 q) else ((f_Mo_holds x1 q).bind (fun r52 => (f_Mo_branch r52 (1 : Int32) q).bind (fun r53 => k_Mo_first_415 r53))))
def f_Mo_first (x1 : Int32) (x2 : Int32) (q : z_Sg) : Option z_Sg :=
  if (64 : Int32) ≤ x1 then (if x1 < (80 : Int32) then (k_Mo_first_42 x1 x2 q) else (if (95 : Int32) < x1 then (k_Mo_first_42 x1 x2 q) else ((f_Mo_shortStack x1 q).bind (fun r55 => k_Mo_first_415 r55)))) else ((f_Mo_arithmetic (x1 / (8 : Int32)) (x1 - x1 / (8 : Int32) * (8 : Int32)) x2 q).bind (fun r56 => k_Mo_first_415 r56))
set_option maxHeartbeats 4000000 in
set_option maxRecDepth 100000 in
theorem w_Mo_first_415 {p : Program} {l : Launch} {e : Env} {s : State} {m : MethodId} {args : Array Value} {below : List Frame} {meth : Method} {c : Code} {D : va_G} {A : Nat → Prop} {ad : Nat → Nat} {ca : Nat → ClassId} (o : z_Sg) (C0 : z_cx z_RMo b_Mo_first 3 none D (z_Mt ca) A p s m args meth c) (q : z_Sg) (h : k_Mo_first_415 q = some o) : ∀ (H : Heap) (locs : List Loc) (ls : Array Slot), z_wd D (z_M ad ca q) A s H locs → lv_has ls 3 [] → W p l e (z_rm 10 244) s m args below meth c H locs 0 0 (z_qv below D (z_Mt ca) (z_M ad ca o) A s args) (F0 m 415 ls []) := by
  obtain ⟨hx, hb, hr, hlk, hml, hown, hts, hK, hA⟩ := id C0
  intro H locs ls hw hl
  have ho := Option.some.inj h
  subst ho
  exact z_rtv C0 hw d_Mo_first_415
set_option maxHeartbeats 4000000 in
set_option maxRecDepth 100000 in
theorem w_Mo_first_88 {p : Program} {l : Launch} {e : Env} {s : State} {m : MethodId} {args : Array Value} {below : List Frame} {meth : Method} {c : Code} {D : va_G} {A : Nat → Prop} {ad : Nat → Nat} {ca : Nat → ClassId} (o : z_Sg) (C0 : z_cx z_RMo b_Mo_first 3 none D (z_Mt ca) A p s m args meth c) (q : z_Sg) (x1 : Int32) (x2 : Int32) (h : k_Mo_first_88 x1 x2 q = some o) : ∀ (H : Heap) (locs : List Loc) (ls : Array Slot), z_wd D (z_M ad ca q) A s H locs → lv_has ls 3 [(0, .ref (ad 0)), (1, .int x1), (2, .int x2)] → W p l e (z_rm 10 244) s m args below meth c H locs 0 0 (z_qv below D (z_Mt ca) (z_M ad ca o) A s args) (F0 m 88 ls []) := by
  obtain ⟨hx, hb, hr, hlk, hml, hown, hts, hK, hA⟩ := id C0
  intro H locs ls hw hl
  refine lv_aload_n hx hb d_Mo_first_88 rfl (lv_at hl 0 rfl) ?_
  refine lv_iload_n hx hb d_Mo_first_89 rfl (lv_at hl 1 rfl) ?_
  refine lv_iload_n hx hb d_Mo_first_90 rfl (lv_at hl 2 rfl) ?_
  obtain ⟨r5, er5, h⟩ := ok_b h
  refine z_vv (rest := []) C0 hw (c_Mo_group x1 x2 q r5 er5) mw_Mo_group ml_Mo_259 0 rfl ⟨Nat.le_of_ble_eq_true rfl, Nat.le_of_ble_eq_true rfl⟩ ⟨Nat.le_refl 0, Nat.le_refl 0⟩ rfl hl.1 rfl (Nat.le_of_ble_eq_true rfl) d_Mo_first_91 (fun H locs hw => ?_)
  refine lv_goto (tgt := 415) hx hb d_Mo_first_94 (by decide) ?_
  exact w_Mo_first_415 o C0 r5 h H locs ls hw (lv_sub hl [] rfl)
set_option maxHeartbeats 4000000 in
set_option maxRecDepth 100000 in
theorem w_Mo_first_233 {p : Program} {l : Launch} {e : Env} {s : State} {m : MethodId} {args : Array Value} {below : List Frame} {meth : Method} {c : Code} {D : va_G} {A : Nat → Prop} {ad : Nat → Nat} {ca : Nat → ClassId} (o : z_Sg) (C0 : z_cx z_RMo b_Mo_first 3 none D (z_Mt ca) A p s m args meth c) (q : z_Sg) (x1 : Int32) (x2 : Int32) (h : k_Mo_first_233 x1 x2 q = some o) : ∀ (H : Heap) (locs : List Loc) (ls : Array Slot), z_wd D (z_M ad ca q) A s H locs → lv_has ls 3 [(0, .ref (ad 0)), (1, .int x1), (2, .int x2)] → W p l e (z_rm 10 244) s m args below meth c H locs 0 0 (z_qv below D (z_Mt ca) (z_M ad ca o) A s args) (F0 m 233 ls []) := by
  obtain ⟨hx, hb, hr, hlk, hml, hown, hts, hK, hA⟩ := id C0
  intro H locs ls hw hl
  refine lv_aload_n hx hb d_Mo_first_233 rfl (lv_at hl 0 rfl) ?_
  refine lv_iload_n hx hb d_Mo_first_234 rfl (lv_at hl 1 rfl) ?_
  refine lv_iload_n hx hb d_Mo_first_235 rfl (lv_at hl 2 rfl) ?_
  obtain ⟨r13, er13, h⟩ := ok_b h
  refine z_vv (rest := []) C0 hw (c_Mo_shift x1 x2 q r13 er13) mw_Mo_shift ml_Mo_274 0 rfl ⟨Nat.le_of_ble_eq_true rfl, Nat.le_of_ble_eq_true rfl⟩ ⟨Nat.le_refl 0, Nat.le_refl 0⟩ rfl hl.1 rfl (Nat.le_of_ble_eq_true rfl) d_Mo_first_236 (fun H locs hw => ?_)
  refine lv_goto (tgt := 415) hx hb d_Mo_first_239 (by decide) ?_
  exact w_Mo_first_415 o C0 r13 h H locs ls hw (lv_sub hl [] rfl)
set_option maxHeartbeats 4000000 in
set_option maxRecDepth 100000 in
theorem w_Mo_first_326 {p : Program} {l : Launch} {e : Env} {s : State} {m : MethodId} {args : Array Value} {below : List Frame} {meth : Method} {c : Code} {D : va_G} {A : Nat → Prop} {ad : Nat → Nat} {ca : Nat → ClassId} (o : z_Sg) (C0 : z_cx z_RMo b_Mo_first 3 none D (z_Mt ca) A p s m args meth c) (q : z_Sg) (t1 : Int32) (t2 : Int32) (h : k_Mo_first_326 t1 t2 q = some o) : ∀ (H : Heap) (locs : List Loc) (ls : Array Slot), z_wd D (z_M ad ca q) A s H locs → lv_has ls 3 [] → W p l e (z_rm 10 244) s m args below meth c H locs 0 0 (z_qv below D (z_Mt ca) (z_M ad ca o) A s args) (F0 m 326 ls [.int t2, .int t1, .ref (ad 4)]) := by
  obtain ⟨hx, hb, hr, hlk, hml, hown, hts, hK, hA⟩ := id C0
  intro H locs ls hw hl
  obtain ⟨b20, h⟩ := ok_g h
  refine asM_4 C0 hw b20 d_Mo_first_326 (fun H locs hw => ?_)
  obtain ⟨q21, eq21, h⟩ := ok_n h
  rw [← eq21] at hw
  refine lv_goto (tgt := 415) hx hb d_Mo_first_327 (by decide) ?_
  exact w_Mo_first_415 o C0 q21 h H locs ls hw (lv_sub hl [] rfl)
set_option maxHeartbeats 4000000 in
set_option maxRecDepth 100000 in
theorem w_Mo_first_285 {p : Program} {l : Launch} {e : Env} {s : State} {m : MethodId} {args : Array Value} {below : List Frame} {meth : Method} {c : Code} {D : va_G} {A : Nat → Prop} {ad : Nat → Nat} {ca : Nat → ClassId} (o : z_Sg) (C0 : z_cx z_RMo b_Mo_first 3 none D (z_Mt ca) A p s m args meth c) (q : z_Sg) (x1 : Int32) (h : k_Mo_first_285 x1 q = some o) : ∀ (H : Heap) (locs : List Loc) (ls : Array Slot), z_wd D (z_M ad ca q) A s H locs → lv_has ls 3 [(0, .ref (ad 0)), (1, .int x1)] → W p l e (z_rm 10 244) s m args below meth c H locs 0 0 (z_qv below D (z_Mt ca) (z_M ad ca o) A s args) (F0 m 285 ls []) := by
  obtain ⟨hx, hb, hr, hlk, hml, hown, hts, hK, hA⟩ := id C0
  intro H locs ls hw hl
  refine lv_aload_n hx hb d_Mo_first_285 rfl (lv_at hl 0 rfl) ?_
  refine gfM_0_flag C0 hw fl_Mo_21 d_Mo_first_286 ?_
  refine lv_iconst (v := (0 : Int32)) hx hb d_Mo_first_289 (by decide) ?_
  refine lv_iload_n hx hb d_Mo_first_290 rfl (lv_at hl 1 rfl) ?_
  refine lv_sipush (v := (245 : Int32)) hx hb d_Mo_first_291 (by decide) ?_
  refine lv_icmp_ne (tgt := 314) hx hb d_Mo_first_294 (by decide) (fun c18 => ?_) (fun c18 => ?_)
  · have h := ok_f h c18
    refine lv_iload_n hx hb d_Mo_first_314 rfl (lv_at hl 1 rfl) ?_
    refine lv_sipush (v := (249 : Int32)) hx hb d_Mo_first_315 (by decide) ?_
    refine lv_icmp_ne (tgt := 325) hx hb d_Mo_first_318 (by decide) (fun c19 => ?_) (fun c19 => ?_)
    · have h := ok_f h c19
      refine lv_iconst (v := (0 : Int32)) hx hb d_Mo_first_325 (by decide) ?_
      exact w_Mo_first_326 o C0 q (0 : Int32) (0 : Int32) h H locs ls hw (lv_sub hl [] rfl)
    · have h := ok_t h c19
      refine lv_iconst (v := (1 : Int32)) hx hb d_Mo_first_321 (by decide) ?_
      refine lv_goto (tgt := 326) hx hb d_Mo_first_322 (by decide) ?_
      exact w_Mo_first_326 o C0 q (0 : Int32) (1 : Int32) h H locs ls hw (lv_sub hl [] rfl)
  · have h := ok_t h c18
    refine lv_aload_n hx hb d_Mo_first_297 rfl (lv_at hl 0 rfl) ?_
    refine gfM_0_flag C0 hw fl_Mo_21 d_Mo_first_298 ?_
    refine lv_iconst (v := (0 : Int32)) hx hb d_Mo_first_301 (by decide) ?_
    obtain ⟨b22, h⟩ := ok_g h
    refine alM_4 C0 hw b22 d_Mo_first_302 ?_
    refine lv_if_ne (tgt := 310) hx hb d_Mo_first_303 (by decide) (fun c23 => ?_) (fun c23 => ?_)
    · have h := ok_f h c23
      refine lv_iconst (v := (0 : Int32)) hx hb d_Mo_first_310 (by decide) ?_
      refine lv_goto (tgt := 326) hx hb d_Mo_first_311 (by decide) ?_
      exact w_Mo_first_326 o C0 q (0 : Int32) (0 : Int32) h H locs ls hw (lv_sub hl [] rfl)
    · have h := ok_t h c23
      refine lv_iconst (v := (1 : Int32)) hx hb d_Mo_first_306 (by decide) ?_
      refine lv_goto (tgt := 326) hx hb d_Mo_first_307 (by decide) ?_
      exact w_Mo_first_326 o C0 q (0 : Int32) (1 : Int32) h H locs ls hw (lv_sub hl [] rfl)
set_option maxHeartbeats 4000000 in
set_option maxRecDepth 100000 in
theorem w_Mo_first_361 {p : Program} {l : Launch} {e : Env} {s : State} {m : MethodId} {args : Array Value} {below : List Frame} {meth : Method} {c : Code} {D : va_G} {A : Nat → Prop} {ad : Nat → Nat} {ca : Nat → ClassId} (o : z_Sg) (C0 : z_cx z_RMo b_Mo_first 3 none D (z_Mt ca) A p s m args meth c) (q : z_Sg) (t1 : Int32) (t2 : Int32) (h : k_Mo_first_361 t1 t2 q = some o) : ∀ (H : Heap) (locs : List Loc) (ls : Array Slot), z_wd D (z_M ad ca q) A s H locs → lv_has ls 3 [] → W p l e (z_rm 10 244) s m args below meth c H locs 0 0 (z_qv below D (z_Mt ca) (z_M ad ca o) A s args) (F0 m 361 ls [.int t2, .int t1, .ref (ad 4)]) := by
  obtain ⟨hx, hb, hr, hlk, hml, hown, hts, hK, hA⟩ := id C0
  intro H locs ls hw hl
  obtain ⟨b28, h⟩ := ok_g h
  refine asM_4 C0 hw b28 d_Mo_first_361 (fun H locs hw => ?_)
  obtain ⟨q29, eq29, h⟩ := ok_n h
  rw [← eq29] at hw
  refine lv_goto (tgt := 415) hx hb d_Mo_first_362 (by decide) ?_
  exact w_Mo_first_415 o C0 q29 h H locs ls hw (lv_sub hl [] rfl)
set_option maxHeartbeats 4000000 in
set_option maxRecDepth 100000 in
theorem w_Mo_first_344 {p : Program} {l : Launch} {e : Env} {s : State} {m : MethodId} {args : Array Value} {below : List Frame} {meth : Method} {c : Code} {D : va_G} {A : Nat → Prop} {ad : Nat → Nat} {ca : Nat → ClassId} (o : z_Sg) (C0 : z_cx z_RMo b_Mo_first 3 none D (z_Mt ca) A p s m args meth c) (q : z_Sg) (x1 : Int32) (h : k_Mo_first_344 x1 q = some o) : ∀ (H : Heap) (locs : List Loc) (ls : Array Slot), z_wd D (z_M ad ca q) A s H locs → lv_has ls 3 [(0, .ref (ad 0)), (1, .int x1)] → W p l e (z_rm 10 244) s m args below meth c H locs 0 0 (z_qv below D (z_Mt ca) (z_M ad ca o) A s args) (F0 m 344 ls []) := by
  obtain ⟨hx, hb, hr, hlk, hml, hown, hts, hK, hA⟩ := id C0
  intro H locs ls hw hl
  refine lv_aload_n hx hb d_Mo_first_344 rfl (lv_at hl 0 rfl) ?_
  refine gfM_0_flag C0 hw fl_Mo_21 d_Mo_first_345 ?_
  refine lv_iconst (v := (5 : Int32)) hx hb d_Mo_first_348 (by decide) ?_
  refine lv_iload_n hx hb d_Mo_first_349 rfl (lv_at hl 1 rfl) ?_
  refine lv_sipush (v := (253 : Int32)) hx hb d_Mo_first_350 (by decide) ?_
  refine lv_icmp_ne (tgt := 360) hx hb d_Mo_first_353 (by decide) (fun c27 => ?_) (fun c27 => ?_)
  · have h := ok_f h c27
    refine lv_iconst (v := (0 : Int32)) hx hb d_Mo_first_360 (by decide) ?_
    exact w_Mo_first_361 o C0 q (5 : Int32) (0 : Int32) h H locs ls hw (lv_sub hl [] rfl)
  · have h := ok_t h c27
    refine lv_iconst (v := (1 : Int32)) hx hb d_Mo_first_356 (by decide) ?_
    refine lv_goto (tgt := 361) hx hb d_Mo_first_357 (by decide) ?_
    exact w_Mo_first_361 o C0 q (5 : Int32) (1 : Int32) h H locs ls hw (lv_sub hl [] rfl)
set_option maxHeartbeats 4000000 in
set_option maxRecDepth 100000 in
theorem w_Mo_first_379 {p : Program} {l : Launch} {e : Env} {s : State} {m : MethodId} {args : Array Value} {below : List Frame} {meth : Method} {c : Code} {D : va_G} {A : Nat → Prop} {ad : Nat → Nat} {ca : Nat → ClassId} (o : z_Sg) (C0 : z_cx z_RMo b_Mo_first 3 none D (z_Mt ca) A p s m args meth c) (q : z_Sg) (x2 : Int32) (h : k_Mo_first_379 x2 q = some o) : ∀ (H : Heap) (locs : List Loc) (ls : Array Slot), z_wd D (z_M ad ca q) A s H locs → lv_has ls 3 [(0, .ref (ad 0)), (2, .int x2)] → W p l e (z_rm 10 244) s m args below meth c H locs 0 0 (z_qv below D (z_Mt ca) (z_M ad ca o) A s args) (F0 m 379 ls []) := by
  obtain ⟨hx, hb, hr, hlk, hml, hown, hts, hK, hA⟩ := id C0
  intro H locs ls hw hl
  refine lv_aload_n hx hb d_Mo_first_379 rfl (lv_at hl 0 rfl) ?_
  refine lv_iload_n hx hb d_Mo_first_380 rfl (lv_at hl 1 rfl) ?_
  obtain ⟨r32, er32, h⟩ := ok_b h
  refine z_vv (rest := []) C0 hw (c_Mo_unary x2 q r32 er32) mw_Mo_unary ml_Mo_280 0 rfl ⟨Nat.le_of_ble_eq_true rfl, Nat.le_of_ble_eq_true rfl⟩ ⟨Nat.le_refl 0, Nat.le_refl 0⟩ rfl hl.1 rfl (Nat.le_of_ble_eq_true rfl) d_Mo_first_381 (fun H locs hw => ?_)
  refine lv_goto (tgt := 415) hx hb d_Mo_first_384 (by decide) ?_
  exact w_Mo_first_415 o C0 r32 h H locs ls hw (lv_sub hl [] rfl)
set_option maxHeartbeats 4000000 in
set_option maxRecDepth 100000 in
theorem w_Mo_first_401 {p : Program} {l : Launch} {e : Env} {s : State} {m : MethodId} {args : Array Value} {below : List Frame} {meth : Method} {c : Code} {D : va_G} {A : Nat → Prop} {ad : Nat → Nat} {ca : Nat → ClassId} (o : z_Sg) (C0 : z_cx z_RMo b_Mo_first 3 none D (z_Mt ca) A p s m args meth c) (q : z_Sg) (x2 : Int32) (h : k_Mo_first_401 x2 q = some o) : ∀ (H : Heap) (locs : List Loc) (ls : Array Slot), z_wd D (z_M ad ca q) A s H locs → lv_has ls 3 [(0, .ref (ad 0)), (2, .int x2)] → W p l e (z_rm 10 244) s m args below meth c H locs 0 0 (z_qv below D (z_Mt ca) (z_M ad ca o) A s args) (F0 m 401 ls []) := by
  obtain ⟨hx, hb, hr, hlk, hml, hown, hts, hK, hA⟩ := id C0
  intro H locs ls hw hl
  refine lv_aload_n hx hb d_Mo_first_401 rfl (lv_at hl 0 rfl) ?_
  refine lv_iload_n hx hb d_Mo_first_402 rfl (lv_at hl 1 rfl) ?_
  obtain ⟨r35, er35, h⟩ := ok_b h
  refine z_vv (rest := []) C0 hw (c_Mo_more x2 q r35 er35) mw_Mo_more ml_Mo_283 0 rfl ⟨Nat.le_of_ble_eq_true rfl, Nat.le_of_ble_eq_true rfl⟩ ⟨Nat.le_refl 0, Nat.le_refl 0⟩ rfl hl.1 rfl (Nat.le_of_ble_eq_true rfl) d_Mo_first_403 (fun H locs hw => ?_)
  refine lv_goto (tgt := 415) hx hb d_Mo_first_406 (by decide) ?_
  exact w_Mo_first_415 o C0 r35 h H locs ls hw (lv_sub hl [] rfl)
set_option maxHeartbeats 4000000 in
set_option maxRecDepth 100000 in
theorem w_Mo_first_264 {p : Program} {l : Launch} {e : Env} {s : State} {m : MethodId} {args : Array Value} {below : List Frame} {meth : Method} {c : Code} {D : va_G} {A : Nat → Prop} {ad : Nat → Nat} {ca : Nat → ClassId} (o : z_Sg) (C0 : z_cx z_RMo b_Mo_first 3 none D (z_Mt ca) A p s m args meth c) (q : z_Sg) (x1 : Int32) (x2 : Int32) (h : k_Mo_first_264 x1 x2 q = some o) : ∀ (H : Heap) (locs : List Loc) (ls : Array Slot), z_wd D (z_M ad ca q) A s H locs → lv_has ls 3 [(0, .ref (ad 0)), (1, .int x1), (2, .int x2)] → W p l e (z_rm 10 244) s m args below meth c H locs 0 0 (z_qv below D (z_Mt ca) (z_M ad ca o) A s args) (F0 m 264 ls []) := by
  obtain ⟨hx, hb, hr, hlk, hml, hown, hts, hK, hA⟩ := id C0
  intro H locs ls hw hl
  refine lv_iload_n hx hb d_Mo_first_264 rfl (lv_at hl 1 rfl) ?_
  refine lv_sipush (v := (245 : Int32)) hx hb d_Mo_first_265 (by decide) ?_
  refine lv_icmp_eq (tgt := 285) hx hb d_Mo_first_268 (by decide) (fun c17 => ?_) (fun c17 => ?_)
  · have h := ok_t h c17
    exact w_Mo_first_285 o C0 q x1 h H locs ls hw (lv_sub hl [0, 1] rfl)
  · have h := ok_f h c17
    refine lv_iload_n hx hb d_Mo_first_271 rfl (lv_at hl 1 rfl) ?_
    refine lv_sipush (v := (248 : Int32)) hx hb d_Mo_first_272 (by decide) ?_
    refine lv_icmp_eq (tgt := 285) hx hb d_Mo_first_275 (by decide) (fun c24 => ?_) (fun c24 => ?_)
    · have h := ok_t h c24
      exact w_Mo_first_285 o C0 q x1 h H locs ls hw (lv_sub hl [0, 1] rfl)
    · have h := ok_f h c24
      refine lv_iload_n hx hb d_Mo_first_278 rfl (lv_at hl 1 rfl) ?_
      refine lv_sipush (v := (249 : Int32)) hx hb d_Mo_first_279 (by decide) ?_
      refine lv_icmp_ne (tgt := 330) hx hb d_Mo_first_282 (by decide) (fun c25 => ?_) (fun c25 => ?_)
      · have h := ok_f h c25
        refine lv_iload_n hx hb d_Mo_first_330 rfl (lv_at hl 1 rfl) ?_
        refine lv_sipush (v := (252 : Int32)) hx hb d_Mo_first_331 (by decide) ?_
        refine lv_icmp_eq (tgt := 344) hx hb d_Mo_first_334 (by decide) (fun c26 => ?_) (fun c26 => ?_)
        · have h := ok_t h c26
          exact w_Mo_first_344 o C0 q x1 h H locs ls hw (lv_sub hl [0, 1] rfl)
        · have h := ok_f h c26
          refine lv_iload_n hx hb d_Mo_first_337 rfl (lv_at hl 1 rfl) ?_
          refine lv_sipush (v := (253 : Int32)) hx hb d_Mo_first_338 (by decide) ?_
          refine lv_icmp_ne (tgt := 365) hx hb d_Mo_first_341 (by decide) (fun c30 => ?_) (fun c30 => ?_)
          · have h := ok_f h c30
            refine lv_iload_n hx hb d_Mo_first_365 rfl (lv_at hl 1 rfl) ?_
            refine lv_sipush (v := (246 : Int32)) hx hb d_Mo_first_366 (by decide) ?_
            refine lv_icmp_eq (tgt := 379) hx hb d_Mo_first_369 (by decide) (fun c31 => ?_) (fun c31 => ?_)
            · have h := ok_t h c31
              exact w_Mo_first_379 o C0 q x2 h H locs ls hw (lv_sub hl [0, 2] rfl)
            · have h := ok_f h c31
              refine lv_iload_n hx hb d_Mo_first_372 rfl (lv_at hl 1 rfl) ?_
              refine lv_sipush (v := (247 : Int32)) hx hb d_Mo_first_373 (by decide) ?_
              refine lv_icmp_ne (tgt := 387) hx hb d_Mo_first_376 (by decide) (fun c33 => ?_) (fun c33 => ?_)
              · have h := ok_f h c33
                refine lv_iload_n hx hb d_Mo_first_387 rfl (lv_at hl 1 rfl) ?_
                refine lv_sipush (v := (254 : Int32)) hx hb d_Mo_first_388 (by decide) ?_
                refine lv_icmp_eq (tgt := 401) hx hb d_Mo_first_391 (by decide) (fun c34 => ?_) (fun c34 => ?_)
                · have h := ok_t h c34
                  exact w_Mo_first_401 o C0 q x2 h H locs ls hw (lv_sub hl [0, 2] rfl)
                · have h := ok_f h c34
                  refine lv_iload_n hx hb d_Mo_first_394 rfl (lv_at hl 1 rfl) ?_
                  refine lv_sipush (v := (255 : Int32)) hx hb d_Mo_first_395 (by decide) ?_
                  refine lv_icmp_ne (tgt := 409) hx hb d_Mo_first_398 (by decide) (fun c36 => ?_) (fun c36 => ?_)
                  · have h := ok_f h c36
                    refine lv_aload_n hx hb d_Mo_first_409 rfl (lv_at hl 0 rfl) ?_
                    refine lv_iload_n hx hb d_Mo_first_410 rfl (lv_at hl 1 rfl) ?_
                    refine lv_iload_n hx hb d_Mo_first_411 rfl (lv_at hl 2 rfl) ?_
                    obtain ⟨r37, er37, h⟩ := ok_b h
                    refine z_vv (rest := []) C0 hw (c_Mo_others x1 x2 q r37 er37) mw_Mo_others ml_Mo_286 0 rfl ⟨Nat.le_of_ble_eq_true rfl, Nat.le_of_ble_eq_true rfl⟩ ⟨Nat.le_refl 0, Nat.le_refl 0⟩ rfl hl.1 rfl (Nat.le_of_ble_eq_true rfl) d_Mo_first_412 (fun H locs hw => ?_)
                    exact w_Mo_first_415 o C0 r37 h H locs ls hw (lv_sub hl [] rfl)
                  · have h := ok_t h c36
                    exact w_Mo_first_401 o C0 q x2 h H locs ls hw (lv_sub hl [0, 2] rfl)
              · have h := ok_t h c33
                exact w_Mo_first_379 o C0 q x2 h H locs ls hw (lv_sub hl [0, 2] rfl)
          · have h := ok_t h c30
            exact w_Mo_first_344 o C0 q x1 h H locs ls hw (lv_sub hl [0, 1] rfl)
      · have h := ok_t h c25
        exact w_Mo_first_285 o C0 q x1 h H locs ls hw (lv_sub hl [0, 1] rfl)
set_option maxHeartbeats 4000000 in
set_option maxRecDepth 100000 in
theorem w_Mo_first_242 {p : Program} {l : Launch} {e : Env} {s : State} {m : MethodId} {args : Array Value} {below : List Frame} {meth : Method} {c : Code} {D : va_G} {A : Nat → Prop} {ad : Nat → Nat} {ca : Nat → ClassId} (o : z_Sg) (C0 : z_cx z_RMo b_Mo_first 3 none D (z_Mt ca) A p s m args meth c) (q : z_Sg) (x1 : Int32) (x2 : Int32) (h : k_Mo_first_242 x1 x2 q = some o) : ∀ (H : Heap) (locs : List Loc) (ls : Array Slot), z_wd D (z_M ad ca q) A s H locs → lv_has ls 3 [(0, .ref (ad 0)), (1, .int x1), (2, .int x2)] → W p l e (z_rm 10 244) s m args below meth c H locs 0 0 (z_qv below D (z_Mt ca) (z_M ad ca o) A s args) (F0 m 242 ls []) := by
  obtain ⟨hx, hb, hr, hlk, hml, hown, hts, hK, hA⟩ := id C0
  intro H locs ls hw hl
  refine lv_iload_n hx hb d_Mo_first_242 rfl (lv_at hl 1 rfl) ?_
  refine lv_sipush (v := (224 : Int32)) hx hb d_Mo_first_243 (by decide) ?_
  refine lv_icmp_lt (tgt := 264) hx hb d_Mo_first_246 (by decide) (fun c16 => ?_) (fun c16 => ?_)
  · have h := ok_t h c16
    exact w_Mo_first_264 o C0 q x1 x2 h H locs ls hw (lv_sub hl [0, 1, 2] rfl)
  · have h := ok_f h c16
    refine lv_iload_n hx hb d_Mo_first_249 rfl (lv_at hl 1 rfl) ?_
    refine lv_sipush (v := (227 : Int32)) hx hb d_Mo_first_250 (by decide) ?_
    refine lv_icmp_gt (tgt := 264) hx hb d_Mo_first_253 (by decide) (fun c38 => ?_) (fun c38 => ?_)
    · have h := ok_t h c38
      exact w_Mo_first_264 o C0 q x1 x2 h H locs ls hw (lv_sub hl [0, 1, 2] rfl)
    · have h := ok_f h c38
      refine lv_aload_n hx hb d_Mo_first_256 rfl (lv_at hl 0 rfl) ?_
      refine lv_iload_n hx hb d_Mo_first_257 rfl (lv_at hl 1 rfl) ?_
      obtain ⟨r39, er39, h⟩ := ok_b h
      refine z_vv (rest := []) C0 hw (c_Mo_loop x1 q r39 er39) mw_Mo_loop ml_Mo_277 0 rfl ⟨Nat.le_of_ble_eq_true rfl, Nat.le_of_ble_eq_true rfl⟩ ⟨Nat.le_refl 0, Nat.le_refl 0⟩ rfl hl.1 rfl (Nat.le_of_ble_eq_true rfl) d_Mo_first_258 (fun H locs hw => ?_)
      refine lv_goto (tgt := 415) hx hb d_Mo_first_261 (by decide) ?_
      exact w_Mo_first_415 o C0 r39 h H locs ls hw (lv_sub hl [] rfl)
set_option maxHeartbeats 4000000 in
set_option maxRecDepth 100000 in
theorem w_Mo_first_205 {p : Program} {l : Launch} {e : Env} {s : State} {m : MethodId} {args : Array Value} {below : List Frame} {meth : Method} {c : Code} {D : va_G} {A : Nat → Prop} {ad : Nat → Nat} {ca : Nat → ClassId} (o : z_Sg) (C0 : z_cx z_RMo b_Mo_first 3 none D (z_Mt ca) A p s m args meth c) (q : z_Sg) (x1 : Int32) (x2 : Int32) (h : k_Mo_first_205 x1 x2 q = some o) : ∀ (H : Heap) (locs : List Loc) (ls : Array Slot), z_wd D (z_M ad ca q) A s H locs → lv_has ls 3 [(0, .ref (ad 0)), (1, .int x1), (2, .int x2)] → W p l e (z_rm 10 244) s m args below meth c H locs 0 0 (z_qv below D (z_Mt ca) (z_M ad ca o) A s args) (F0 m 205 ls []) := by
  obtain ⟨hx, hb, hr, hlk, hml, hown, hts, hK, hA⟩ := id C0
  intro H locs ls hw hl
  refine lv_iload_n hx hb d_Mo_first_205 rfl (lv_at hl 1 rfl) ?_
  refine lv_sipush (v := (192 : Int32)) hx hb d_Mo_first_206 (by decide) ?_
  refine lv_icmp_eq (tgt := 233) hx hb d_Mo_first_209 (by decide) (fun c12 => ?_) (fun c12 => ?_)
  · have h := ok_t h c12
    exact w_Mo_first_233 o C0 q x1 x2 h H locs ls hw (lv_sub hl [0, 1, 2] rfl)
  · have h := ok_f h c12
    refine lv_iload_n hx hb d_Mo_first_212 rfl (lv_at hl 1 rfl) ?_
    refine lv_sipush (v := (193 : Int32)) hx hb d_Mo_first_213 (by decide) ?_
    refine lv_icmp_eq (tgt := 233) hx hb d_Mo_first_216 (by decide) (fun c14 => ?_) (fun c14 => ?_)
    · have h := ok_t h c14
      exact w_Mo_first_233 o C0 q x1 x2 h H locs ls hw (lv_sub hl [0, 1, 2] rfl)
    · have h := ok_f h c14
      refine lv_iload_n hx hb d_Mo_first_219 rfl (lv_at hl 1 rfl) ?_
      refine lv_sipush (v := (208 : Int32)) hx hb d_Mo_first_220 (by decide) ?_
      refine lv_icmp_lt (tgt := 242) hx hb d_Mo_first_223 (by decide) (fun c15 => ?_) (fun c15 => ?_)
      · have h := ok_t h c15
        exact w_Mo_first_242 o C0 q x1 x2 h H locs ls hw (lv_sub hl [0, 1, 2] rfl)
      · have h := ok_f h c15
        refine lv_iload_n hx hb d_Mo_first_226 rfl (lv_at hl 1 rfl) ?_
        refine lv_sipush (v := (211 : Int32)) hx hb d_Mo_first_227 (by decide) ?_
        refine lv_icmp_gt (tgt := 242) hx hb d_Mo_first_230 (by decide) (fun c40 => ?_) (fun c40 => ?_)
        · have h := ok_t h c40
          exact w_Mo_first_242 o C0 q x1 x2 h H locs ls hw (lv_sub hl [0, 1, 2] rfl)
        · have h := ok_f h c40
          exact w_Mo_first_233 o C0 q x1 x2 h H locs ls hw (lv_sub hl [0, 1, 2] rfl)
set_option maxHeartbeats 4000000 in
set_option maxRecDepth 100000 in
theorem w_Mo_first_183 {p : Program} {l : Launch} {e : Env} {s : State} {m : MethodId} {args : Array Value} {below : List Frame} {meth : Method} {c : Code} {D : va_G} {A : Nat → Prop} {ad : Nat → Nat} {ca : Nat → ClassId} (o : z_Sg) (C0 : z_cx z_RMo b_Mo_first 3 none D (z_Mt ca) A p s m args meth c) (q : z_Sg) (x1 : Int32) (x2 : Int32) (h : k_Mo_first_183 x1 x2 q = some o) : ∀ (H : Heap) (locs : List Loc) (ls : Array Slot), z_wd D (z_M ad ca q) A s H locs → lv_has ls 3 [(0, .ref (ad 0)), (1, .int x1), (2, .int x2)] → W p l e (z_rm 10 244) s m args below meth c H locs 0 0 (z_qv below D (z_Mt ca) (z_M ad ca o) A s args) (F0 m 183 ls []) := by
  obtain ⟨hx, hb, hr, hlk, hml, hown, hts, hK, hA⟩ := id C0
  intro H locs ls hw hl
  refine lv_iload_n hx hb d_Mo_first_183 rfl (lv_at hl 1 rfl) ?_
  refine lv_sipush (v := (176 : Int32)) hx hb d_Mo_first_184 (by decide) ?_
  refine lv_icmp_lt (tgt := 205) hx hb d_Mo_first_187 (by decide) (fun c11 => ?_) (fun c11 => ?_)
  · have h := ok_t h c11
    exact w_Mo_first_205 o C0 q x1 x2 h H locs ls hw (lv_sub hl [0, 1, 2] rfl)
  · have h := ok_f h c11
    refine lv_iload_n hx hb d_Mo_first_190 rfl (lv_at hl 1 rfl) ?_
    refine lv_sipush (v := (191 : Int32)) hx hb d_Mo_first_191 (by decide) ?_
    refine lv_icmp_gt (tgt := 205) hx hb d_Mo_first_194 (by decide) (fun c41 => ?_) (fun c41 => ?_)
    · have h := ok_t h c41
      exact w_Mo_first_205 o C0 q x1 x2 h H locs ls hw (lv_sub hl [0, 1, 2] rfl)
    · have h := ok_f h c41
      refine lv_aload_n hx hb d_Mo_first_197 rfl (lv_at hl 0 rfl) ?_
      refine lv_iload_n hx hb d_Mo_first_198 rfl (lv_at hl 1 rfl) ?_
      obtain ⟨r42, er42, h⟩ := ok_b h
      refine z_vv (rest := []) C0 hw (c_Mo_immediate x1 q r42 er42) mw_Mo_immediate ml_Mo_271 0 rfl ⟨Nat.le_of_ble_eq_true rfl, Nat.le_of_ble_eq_true rfl⟩ ⟨Nat.le_refl 0, Nat.le_refl 0⟩ rfl hl.1 rfl (Nat.le_of_ble_eq_true rfl) d_Mo_first_199 (fun H locs hw => ?_)
      refine lv_goto (tgt := 415) hx hb d_Mo_first_202 (by decide) ?_
      exact w_Mo_first_415 o C0 r42 h H locs ls hw (lv_sub hl [] rfl)
set_option maxHeartbeats 4000000 in
set_option maxRecDepth 100000 in
theorem w_Mo_first_142 {p : Program} {l : Launch} {e : Env} {s : State} {m : MethodId} {args : Array Value} {below : List Frame} {meth : Method} {c : Code} {D : va_G} {A : Nat → Prop} {ad : Nat → Nat} {ca : Nat → ClassId} (o : z_Sg) (C0 : z_cx z_RMo b_Mo_first 3 none D (z_Mt ca) A p s m args meth c) (q : z_Sg) (x1 : Int32) (x2 : Int32) (h : k_Mo_first_142 x1 x2 q = some o) : ∀ (H : Heap) (locs : List Loc) (ls : Array Slot), z_wd D (z_M ad ca q) A s H locs → lv_has ls 3 [(0, .ref (ad 0)), (1, .int x1), (2, .int x2)] → W p l e (z_rm 10 244) s m args below meth c H locs 0 0 (z_qv below D (z_Mt ca) (z_M ad ca o) A s args) (F0 m 142 ls []) := by
  obtain ⟨hx, hb, hr, hlk, hml, hown, hts, hK, hA⟩ := id C0
  intro H locs ls hw hl
  refine lv_iload_n hx hb d_Mo_first_142 rfl (lv_at hl 1 rfl) ?_
  refine lv_sipush (v := (164 : Int32)) hx hb d_Mo_first_143 (by decide) ?_
  refine lv_icmp_lt (tgt := 183) hx hb d_Mo_first_146 (by decide) (fun c10 => ?_) (fun c10 => ?_)
  · have h := ok_t h c10
    exact w_Mo_first_183 o C0 q x1 x2 h H locs ls hw (lv_sub hl [0, 1, 2] rfl)
  · have h := ok_f h c10
    refine lv_iload_n hx hb d_Mo_first_149 rfl (lv_at hl 1 rfl) ?_
    refine lv_sipush (v := (175 : Int32)) hx hb d_Mo_first_150 (by decide) ?_
    refine lv_icmp_gt (tgt := 183) hx hb d_Mo_first_153 (by decide) (fun c43 => ?_) (fun c43 => ?_)
    · have h := ok_t h c43
      exact w_Mo_first_183 o C0 q x1 x2 h H locs ls hw (lv_sub hl [0, 1, 2] rfl)
    · have h := ok_f h c43
      refine lv_iload_n hx hb d_Mo_first_156 rfl (lv_at hl 1 rfl) ?_
      refine lv_sipush (v := (168 : Int32)) hx hb d_Mo_first_157 (by decide) ?_
      refine lv_icmp_eq (tgt := 183) hx hb d_Mo_first_160 (by decide) (fun c44 => ?_) (fun c44 => ?_)
      · have h := ok_t h c44
        exact w_Mo_first_183 o C0 q x1 x2 h H locs ls hw (lv_sub hl [0, 1, 2] rfl)
      · have h := ok_f h c44
        refine lv_iload_n hx hb d_Mo_first_163 rfl (lv_at hl 1 rfl) ?_
        refine lv_sipush (v := (169 : Int32)) hx hb d_Mo_first_164 (by decide) ?_
        refine lv_icmp_eq (tgt := 183) hx hb d_Mo_first_167 (by decide) (fun c45 => ?_) (fun c45 => ?_)
        · have h := ok_t h c45
          exact w_Mo_first_183 o C0 q x1 x2 h H locs ls hw (lv_sub hl [0, 1, 2] rfl)
        · have h := ok_f h c45
          refine lv_aload_n hx hb d_Mo_first_170 rfl (lv_at hl 0 rfl) ?_
          refine lv_iload_n hx hb d_Mo_first_171 rfl (lv_at hl 1 rfl) ?_
          refine lv_sipush (v := (254 : Int32)) hx hb d_Mo_first_172 (by decide) ?_
          refine lv_iand hx hb d_Mo_first_175 ?_
          refine lv_iload_n hx hb d_Mo_first_176 rfl (lv_at hl 2 rfl) ?_
          obtain ⟨r46, er46, h⟩ := ok_b h
          refine z_vv (rest := []) C0 hw (c_Mo_string (x1 &&& (254 : Int32)) x2 q r46 er46) mw_Mo_string ml_Mo_268 0 rfl ⟨Nat.le_of_ble_eq_true rfl, Nat.le_of_ble_eq_true rfl⟩ ⟨Nat.le_refl 0, Nat.le_refl 0⟩ rfl hl.1 rfl (Nat.le_of_ble_eq_true rfl) d_Mo_first_177 (fun H locs hw => ?_)
          refine lv_goto (tgt := 415) hx hb d_Mo_first_180 (by decide) ?_
          exact w_Mo_first_415 o C0 r46 h H locs ls hw (lv_sub hl [] rfl)
set_option maxHeartbeats 4000000 in
set_option maxRecDepth 100000 in
theorem w_Mo_first_120 {p : Program} {l : Launch} {e : Env} {s : State} {m : MethodId} {args : Array Value} {below : List Frame} {meth : Method} {c : Code} {D : va_G} {A : Nat → Prop} {ad : Nat → Nat} {ca : Nat → ClassId} (o : z_Sg) (C0 : z_cx z_RMo b_Mo_first 3 none D (z_Mt ca) A p s m args meth c) (q : z_Sg) (x1 : Int32) (x2 : Int32) (h : k_Mo_first_120 x1 x2 q = some o) : ∀ (H : Heap) (locs : List Loc) (ls : Array Slot), z_wd D (z_M ad ca q) A s H locs → lv_has ls 3 [(0, .ref (ad 0)), (1, .int x1), (2, .int x2)] → W p l e (z_rm 10 244) s m args below meth c H locs 0 0 (z_qv below D (z_Mt ca) (z_M ad ca o) A s args) (F0 m 120 ls []) := by
  obtain ⟨hx, hb, hr, hlk, hml, hown, hts, hK, hA⟩ := id C0
  intro H locs ls hw hl
  refine lv_iload_n hx hb d_Mo_first_120 rfl (lv_at hl 1 rfl) ?_
  refine lv_sipush (v := (144 : Int32)) hx hb d_Mo_first_121 (by decide) ?_
  refine lv_icmp_lt (tgt := 142) hx hb d_Mo_first_124 (by decide) (fun c9 => ?_) (fun c9 => ?_)
  · have h := ok_t h c9
    exact w_Mo_first_142 o C0 q x1 x2 h H locs ls hw (lv_sub hl [0, 1, 2] rfl)
  · have h := ok_f h c9
    refine lv_iload_n hx hb d_Mo_first_127 rfl (lv_at hl 1 rfl) ?_
    refine lv_sipush (v := (153 : Int32)) hx hb d_Mo_first_128 (by decide) ?_
    refine lv_icmp_gt (tgt := 142) hx hb d_Mo_first_131 (by decide) (fun c47 => ?_) (fun c47 => ?_)
    · have h := ok_t h c47
      exact w_Mo_first_142 o C0 q x1 x2 h H locs ls hw (lv_sub hl [0, 1, 2] rfl)
    · have h := ok_f h c47
      refine lv_aload_n hx hb d_Mo_first_134 rfl (lv_at hl 0 rfl) ?_
      refine lv_iload_n hx hb d_Mo_first_135 rfl (lv_at hl 1 rfl) ?_
      obtain ⟨r48, er48, h⟩ := ok_b h
      refine z_vv (rest := []) C0 hw (c_Mo_turn x1 q r48 er48) mw_Mo_turn ml_Mo_265 0 rfl ⟨Nat.le_of_ble_eq_true rfl, Nat.le_of_ble_eq_true rfl⟩ ⟨Nat.le_refl 0, Nat.le_refl 0⟩ rfl hl.1 rfl (Nat.le_of_ble_eq_true rfl) d_Mo_first_136 (fun H locs hw => ?_)
      refine lv_goto (tgt := 415) hx hb d_Mo_first_139 (by decide) ?_
      exact w_Mo_first_415 o C0 r48 h H locs ls hw (lv_sub hl [] rfl)
set_option maxHeartbeats 4000000 in
set_option maxRecDepth 100000 in
theorem w_Mo_first_67 {p : Program} {l : Launch} {e : Env} {s : State} {m : MethodId} {args : Array Value} {below : List Frame} {meth : Method} {c : Code} {D : va_G} {A : Nat → Prop} {ad : Nat → Nat} {ca : Nat → ClassId} (o : z_Sg) (C0 : z_cx z_RMo b_Mo_first 3 none D (z_Mt ca) A p s m args meth c) (q : z_Sg) (x1 : Int32) (x2 : Int32) (h : k_Mo_first_67 x1 x2 q = some o) : ∀ (H : Heap) (locs : List Loc) (ls : Array Slot), z_wd D (z_M ad ca q) A s H locs → lv_has ls 3 [(0, .ref (ad 0)), (1, .int x1), (2, .int x2)] → W p l e (z_rm 10 244) s m args below meth c H locs 0 0 (z_qv below D (z_Mt ca) (z_M ad ca o) A s args) (F0 m 67 ls []) := by
  obtain ⟨hx, hb, hr, hlk, hml, hown, hts, hK, hA⟩ := id C0
  intro H locs ls hw hl
  refine lv_iload_n hx hb d_Mo_first_67 rfl (lv_at hl 1 rfl) ?_
  refine lv_sipush (v := (128 : Int32)) hx hb d_Mo_first_68 (by decide) ?_
  refine lv_icmp_eq (tgt := 88) hx hb d_Mo_first_71 (by decide) (fun c4 => ?_) (fun c4 => ?_)
  · have h := ok_t h c4
    exact w_Mo_first_88 o C0 q x1 x2 h H locs ls hw (lv_sub hl [0, 1, 2] rfl)
  · have h := ok_f h c4
    refine lv_iload_n hx hb d_Mo_first_74 rfl (lv_at hl 1 rfl) ?_
    refine lv_sipush (v := (129 : Int32)) hx hb d_Mo_first_75 (by decide) ?_
    refine lv_icmp_eq (tgt := 88) hx hb d_Mo_first_78 (by decide) (fun c6 => ?_) (fun c6 => ?_)
    · have h := ok_t h c6
      exact w_Mo_first_88 o C0 q x1 x2 h H locs ls hw (lv_sub hl [0, 1, 2] rfl)
    · have h := ok_f h c6
      refine lv_iload_n hx hb d_Mo_first_81 rfl (lv_at hl 1 rfl) ?_
      refine lv_sipush (v := (131 : Int32)) hx hb d_Mo_first_82 (by decide) ?_
      refine lv_icmp_ne (tgt := 97) hx hb d_Mo_first_85 (by decide) (fun c7 => ?_) (fun c7 => ?_)
      · have h := ok_f h c7
        refine lv_iload_n hx hb d_Mo_first_97 rfl (lv_at hl 1 rfl) ?_
        refine lv_sipush (v := (132 : Int32)) hx hb d_Mo_first_98 (by decide) ?_
        refine lv_icmp_lt (tgt := 120) hx hb d_Mo_first_101 (by decide) (fun c8 => ?_) (fun c8 => ?_)
        · have h := ok_t h c8
          exact w_Mo_first_120 o C0 q x1 x2 h H locs ls hw (lv_sub hl [0, 1, 2] rfl)
        · have h := ok_f h c8
          refine lv_iload_n hx hb d_Mo_first_104 rfl (lv_at hl 1 rfl) ?_
          refine lv_sipush (v := (139 : Int32)) hx hb d_Mo_first_105 (by decide) ?_
          refine lv_icmp_gt (tgt := 120) hx hb d_Mo_first_108 (by decide) (fun c49 => ?_) (fun c49 => ?_)
          · have h := ok_t h c49
            exact w_Mo_first_120 o C0 q x1 x2 h H locs ls hw (lv_sub hl [0, 1, 2] rfl)
          · have h := ok_f h c49
            refine lv_aload_n hx hb d_Mo_first_111 rfl (lv_at hl 0 rfl) ?_
            refine lv_iload_n hx hb d_Mo_first_112 rfl (lv_at hl 1 rfl) ?_
            refine lv_iload_n hx hb d_Mo_first_113 rfl (lv_at hl 2 rfl) ?_
            obtain ⟨r50, er50, h⟩ := ok_b h
            refine z_vv (rest := []) C0 hw (c_Mo_move x1 x2 q r50 er50) mw_Mo_move ml_Mo_262 0 rfl ⟨Nat.le_of_ble_eq_true rfl, Nat.le_of_ble_eq_true rfl⟩ ⟨Nat.le_refl 0, Nat.le_refl 0⟩ rfl hl.1 rfl (Nat.le_of_ble_eq_true rfl) d_Mo_first_114 (fun H locs hw => ?_)
            refine lv_goto (tgt := 415) hx hb d_Mo_first_117 (by decide) ?_
            exact w_Mo_first_415 o C0 r50 h H locs ls hw (lv_sub hl [] rfl)
      · have h := ok_t h c7
        exact w_Mo_first_88 o C0 q x1 x2 h H locs ls hw (lv_sub hl [0, 1, 2] rfl)
set_option maxHeartbeats 4000000 in
set_option maxRecDepth 100000 in
theorem w_Mo_first_42 {p : Program} {l : Launch} {e : Env} {s : State} {m : MethodId} {args : Array Value} {below : List Frame} {meth : Method} {c : Code} {D : va_G} {A : Nat → Prop} {ad : Nat → Nat} {ca : Nat → ClassId} (o : z_Sg) (C0 : z_cx z_RMo b_Mo_first 3 none D (z_Mt ca) A p s m args meth c) (q : z_Sg) (x1 : Int32) (x2 : Int32) (h : k_Mo_first_42 x1 x2 q = some o) : ∀ (H : Heap) (locs : List Loc) (ls : Array Slot), z_wd D (z_M ad ca q) A s H locs → lv_has ls 3 [(0, .ref (ad 0)), (1, .int x1), (2, .int x2)] → W p l e (z_rm 10 244) s m args below meth c H locs 0 0 (z_qv below D (z_Mt ca) (z_M ad ca o) A s args) (F0 m 42 ls []) := by
  obtain ⟨hx, hb, hr, hlk, hml, hown, hts, hK, hA⟩ := id C0
  intro H locs ls hw hl
  refine lv_iload_n hx hb d_Mo_first_42 rfl (lv_at hl 1 rfl) ?_
  refine lv_bipush (v := (112 : Int32)) hx hb d_Mo_first_43 (by decide) ?_
  refine lv_icmp_lt (tgt := 67) hx hb d_Mo_first_45 (by decide) (fun c3 => ?_) (fun c3 => ?_)
  · have h := ok_t h c3
    exact w_Mo_first_67 o C0 q x1 x2 h H locs ls hw (lv_sub hl [0, 1, 2] rfl)
  · have h := ok_f h c3
    refine lv_iload_n hx hb d_Mo_first_48 rfl (lv_at hl 1 rfl) ?_
    refine lv_bipush (v := (127 : Int32)) hx hb d_Mo_first_49 (by decide) ?_
    refine lv_icmp_gt (tgt := 67) hx hb d_Mo_first_51 (by decide) (fun c51 => ?_) (fun c51 => ?_)
    · have h := ok_t h c51
      exact w_Mo_first_67 o C0 q x1 x2 h H locs ls hw (lv_sub hl [0, 1, 2] rfl)
    · have h := ok_f h c51
      refine lv_aload_n hx hb d_Mo_first_54 rfl (lv_at hl 0 rfl) ?_
      refine lv_aload_n hx hb d_Mo_first_55 rfl (lv_at hl 0 rfl) ?_
      refine lv_iload_n hx hb d_Mo_first_56 rfl (lv_at hl 1 rfl) ?_
      obtain ⟨r52, er52, h⟩ := ok_b h
      refine z_vi (rest := [.ref (ad 0)]) C0 hw (c_Mo_holds x1 q r52 er52) mw_Mo_holds ml_Mo_252 0 rfl ⟨Nat.le_of_ble_eq_true rfl, Nat.le_of_ble_eq_true rfl⟩ ⟨Nat.le_refl 0, Nat.le_refl 0⟩ rfl hl.1 rfl (Nat.le_of_ble_eq_true rfl) d_Mo_first_57 (fun H locs hw => ?_)
      refine lv_iconst (v := (1 : Int32)) hx hb d_Mo_first_60 (by decide) ?_
      obtain ⟨r53, er53, h⟩ := ok_b h
      refine z_vv (rest := []) C0 hw (c_Mo_branch r52 (1 : Int32) q r53 er53) mw_Mo_branch ml_Mo_255 0 rfl ⟨Nat.le_of_ble_eq_true rfl, Nat.le_of_ble_eq_true rfl⟩ ⟨Nat.le_refl 0, Nat.le_refl 0⟩ rfl hl.1 rfl (Nat.le_of_ble_eq_true rfl) d_Mo_first_61 (fun H locs hw => ?_)
      refine lv_goto (tgt := 415) hx hb d_Mo_first_64 (by decide) ?_
      exact w_Mo_first_415 o C0 r53 h H locs ls hw (lv_sub hl [] rfl)
set_option maxHeartbeats 4000000 in
set_option maxRecDepth 100000 in
theorem c_Mo_first {l : Launch} {D : va_G} {ad : Nat → Nat} {ca : Nat → ClassId} (x1 : Int32) (x2 : Int32) (q : z_Sg) (o : z_Sg) (h : f_Mo_first x1 x2 q = some o) : z_cv l y_Mo_first b_Mo_first 3 none 10 244 D (z_Mt ca) (z_M ad ca q) (z_M ad ca o) [.ref (ad 0), .int x1, .int x2] := by
  refine z_cv_of (own := z_RMo) (by decide) rfl ?_
  intro p e s m below meth c A C0 hw
  obtain ⟨hx, hb, hr, hlk, hml, hown, hts, hK, hA⟩ := id C0
  generalize hH : s.heap = H at hw ⊢
  generalize hlo : ([] : List Loc) = locs at hw ⊢
  refine z_entry (lv := [(0, .ref (ad 0)), (1, .int x1), (2, .int x2)]) (Nat.le_of_ble_eq_true rfl) rfl (fun ls hl => ?_)
  unfold f_Mo_first at h
  refine lv_iload_n hx hb d_Mo_first_0 rfl (lv_at hl 1 rfl) ?_
  refine lv_bipush (v := (64 : Int32)) hx hb d_Mo_first_1 (by decide) ?_
  refine lv_icmp_ge (tgt := 22) hx hb d_Mo_first_3 (by decide) (fun c1 => ?_) (fun c1 => ?_)
  · have h := ok_t h c1
    refine lv_iload_n hx hb d_Mo_first_22 rfl (lv_at hl 1 rfl) ?_
    refine lv_bipush (v := (80 : Int32)) hx hb d_Mo_first_23 (by decide) ?_
    refine lv_icmp_lt (tgt := 42) hx hb d_Mo_first_25 (by decide) (fun c2 => ?_) (fun c2 => ?_)
    · have h := ok_t h c2
      exact w_Mo_first_42 o C0 q x1 x2 h H locs ls hw (lv_sub hl [0, 1, 2] rfl)
    · have h := ok_f h c2
      refine lv_iload_n hx hb d_Mo_first_28 rfl (lv_at hl 1 rfl) ?_
      refine lv_bipush (v := (95 : Int32)) hx hb d_Mo_first_29 (by decide) ?_
      refine lv_icmp_gt (tgt := 42) hx hb d_Mo_first_31 (by decide) (fun c54 => ?_) (fun c54 => ?_)
      · have h := ok_t h c54
        exact w_Mo_first_42 o C0 q x1 x2 h H locs ls hw (lv_sub hl [0, 1, 2] rfl)
      · have h := ok_f h c54
        refine lv_aload_n hx hb d_Mo_first_34 rfl (lv_at hl 0 rfl) ?_
        refine lv_iload_n hx hb d_Mo_first_35 rfl (lv_at hl 1 rfl) ?_
        obtain ⟨r55, er55, h⟩ := ok_b h
        refine z_vv (rest := []) C0 hw (c_Mo_shortStack x1 q r55 er55) mw_Mo_shortStack ml_Mo_249 0 rfl ⟨Nat.le_of_ble_eq_true rfl, Nat.le_of_ble_eq_true rfl⟩ ⟨Nat.le_refl 0, Nat.le_refl 0⟩ rfl hl.1 rfl (Nat.le_of_ble_eq_true rfl) d_Mo_first_36 (fun H locs hw => ?_)
        refine lv_goto (tgt := 415) hx hb d_Mo_first_39 (by decide) ?_
        exact w_Mo_first_415 o C0 r55 h H locs ls hw (lv_sub hl [] rfl)
  · have h := ok_f h c1
    refine lv_aload_n hx hb d_Mo_first_6 rfl (lv_at hl 0 rfl) ?_
    refine lv_iload_n hx hb d_Mo_first_7 rfl (lv_at hl 1 rfl) ?_
    refine lv_bipush (v := (8 : Int32)) hx hb d_Mo_first_8 (by decide) ?_
    refine lv_idiv hx hb d_Mo_first_10 (by decide) ?_
    refine lv_iload_n hx hb d_Mo_first_11 rfl (lv_at hl 1 rfl) ?_
    refine lv_bipush (v := (8 : Int32)) hx hb d_Mo_first_12 (by decide) ?_
    refine lv_irem hx hb d_Mo_first_14 (by decide) ?_
    refine lv_iload_n hx hb d_Mo_first_15 rfl (lv_at hl 2 rfl) ?_
    obtain ⟨r56, er56, h⟩ := ok_b h
    refine z_vv (rest := []) C0 hw (c_Mo_arithmetic (x1 / (8 : Int32)) (x1 - x1 / (8 : Int32) * (8 : Int32)) x2 q r56 er56) mw_Mo_arithmetic ml_Mo_245 0 rfl ⟨Nat.le_of_ble_eq_true rfl, Nat.le_of_ble_eq_true rfl⟩ ⟨Nat.le_refl 0, Nat.le_refl 0⟩ rfl hl.1 rfl (Nat.le_of_ble_eq_true rfl) d_Mo_first_16 (fun H locs hw => ?_)
    refine lv_goto (tgt := 415) hx hb d_Mo_first_19 (by decide) ?_
    exact w_Mo_first_415 o C0 r56 h H locs ls hw (lv_sub hl [] rfl)
