def k_Mo_find_379 (t0 : Int64) (q : z_Sg) : Option (Int64 × z_Sg) :=
  some (t0, q)
def k_Mo_find_340 (x1 : Int64) (x5 : Int64) (x10 : Int32) (x11 : Int64) (q : z_Sg) : Option (Int64 × z_Sg) :=
  if x10 = (1 : Int32) then ((f_Mo_bits x11 (21 : Int32) (51 : Int32) q).bind (fun r14 => (f_Mo_bits x1 (0 : Int32) (20 : Int32) q).bind (fun r15 => k_Mo_find_379 ((z_lshl r14 (21 : Int32)) + r15) q))) else ((f_Mo_bits x1 (0 : Int32) (11 : Int32) q).bind (fun r13 => k_Mo_find_379 (x5 + r13) q))
def k_Mo_find_336 (q : z_Sg) : Option (Int64 × z_Sg) :=
  some ((-1 : Int64), q)
def k_Mo_find_326 (x1 : Int64) (x3 : Int32) (x5 : Int64) (x9 : Int32) (x10 : Int32) (x11 : Int64) (q : z_Sg) : Option (Int64 × z_Sg) :=
  if x3 = (2 : Int32) then (if x9 = 0 then (k_Mo_find_336 q) else (k_Mo_find_340 x1 x5 x10 x11 q)) else (k_Mo_find_340 x1 x5 x10 x11 q)
def k_Mo_find_314 (x1 : Int64) (x3 : Int32) (x5 : Int64) (x8 : Int32) (x9 : Int32) (x10 : Int32) (x11 : Int64) (q : z_Sg) : Option (Int64 × z_Sg) :=
  if (z_gI q 2) = 0 then (k_Mo_find_326 x1 x3 x5 x9 x10 x11 q) else (if x8 = 0 then (k_Mo_find_336 q) else (k_Mo_find_326 x1 x3 x5 x9 x10 x11 q))
def k_Mo_find_293 (ih71 : Int64 × Int32 × Int32 × Int64 × Int32 × Int32 × Int32 × Int32 × Int64 × Int32 × z_Sg → Option (Int64 × z_Sg)) (x1 : Int64) (x3 : Int32) (x4 : Int32) (x5 : Int64) (x7 : Int32) (x8 : Int32) (x9 : Int32) (x10 : Int32) (x11 : Int64) (x13 : Int32) (q : z_Sg) : Option (Int64 × z_Sg) :=
  ih71 (x1, x3, x4, x5, x7, x8, x9, x10, x11, x13, q)
def k_Mo_find_283 (ih71 : Int64 × Int32 × Int32 × Int64 × Int32 × Int32 × Int32 × Int32 × Int64 × Int32 × z_Sg → Option (Int64 × z_Sg)) (x1 : Int64) (x3 : Int32) (x4 : Int32) (x5 : Int64) (x7 : Int32) (x8 : Int32) (x9 : Int32) (x10 : Int32) (x11 : Int64) (t0 : Int32) (q : z_Sg) : Option (Int64 × z_Sg) :=
  if t0 = 0 then (z_nm (x10 + (-1 : Int32)) (fun n33 => k_Mo_find_293 ih71 x1 x3 x4 x5 x7 x8 x9 n33 x11 t0 q)) else (k_Mo_find_293 ih71 x1 x3 x4 x5 x7 x8 x9 x10 x11 t0 q)
def k_Mo_find_278 (ih71 : Int64 × Int32 × Int32 × Int64 × Int32 × Int32 × Int32 × Int32 × Int64 × Int32 × z_Sg → Option (Int64 × z_Sg)) (x1 : Int64) (x3 : Int32) (x4 : Int32) (x5 : Int64) (x7 : Int32) (x8 : Int32) (x9 : Int32) (x10 : Int32) (x11 : Int64) (q : z_Sg) : Option (Int64 × z_Sg) :=
  k_Mo_find_283 ih71 x1 x3 x4 x5 x7 x8 x9 x10 x11 (1 : Int32) q
def k_Mo_find_252 (ih71 : Int64 × Int32 × Int32 × Int64 × Int32 × Int32 × Int32 × Int32 × Int64 × Int32 × z_Sg → Option (Int64 × z_Sg)) (x1 : Int64) (x3 : Int32) (x4 : Int32) (x7 : Int32) (x8 : Int32) (x10 : Int32) (x11 : Int64) (x14 : Int32) (t0 : Int32) (q : z_Sg) : Option (Int64 × z_Sg) :=
  (f_Mo_bits x11 (12 : Int32) (51 : Int32) q).bind (fun r29 => z_nm ((z_lshl r29 (12 : Int32))) (fun n30 => if x14 = 0 then (if x10 = 0 then (k_Mo_find_278 ih71 x1 x3 x4 n30 x7 x8 t0 x10 x11 q) else (k_Mo_find_283 ih71 x1 x3 x4 n30 x7 x8 t0 x10 x11 (0 : Int32) q)) else (k_Mo_find_278 ih71 x1 x3 x4 n30 x7 x8 t0 x10 x11 q)))
def k_Mo_find_251 (ih71 : Int64 × Int32 × Int32 × Int64 × Int32 × Int32 × Int32 × Int32 × Int64 × Int32 × z_Sg → Option (Int64 × z_Sg)) (x1 : Int64) (x3 : Int32) (x4 : Int32) (x7 : Int32) (x8 : Int32) (x10 : Int32) (x11 : Int64) (x14 : Int32) (q : z_Sg) : Option (Int64 × z_Sg) :=
  k_Mo_find_252 ih71 x1 x3 x4 x7 x8 x10 x11 x14 (0 : Int32) q
def k_Mo_find_233 (ih71 : Int64 × Int32 × Int32 × Int64 × Int32 × Int32 × Int32 × Int32 × Int64 × Int32 × z_Sg → Option (Int64 × z_Sg)) (x1 : Int64) (x3 : Int32) (x4 : Int32) (x7 : Int32) (x9 : Int32) (x10 : Int32) (x11 : Int64) (x14 : Int32) (t0 : Int32) (q : z_Sg) : Option (Int64 × z_Sg) :=
  if x9 = 0 then (k_Mo_find_251 ih71 x1 x3 x4 x7 t0 x10 x11 x14 q) else (if x11 < (0 : Int64) then (k_Mo_find_251 ih71 x1 x3 x4 x7 t0 x10 x11 x14 q) else (k_Mo_find_252 ih71 x1 x3 x4 x7 t0 x10 x11 x14 (1 : Int32) q))
def k_Mo_find_232 (ih71 : Int64 × Int32 × Int32 × Int64 × Int32 × Int32 × Int32 × Int32 × Int64 × Int32 × z_Sg → Option (Int64 × z_Sg)) (x1 : Int64) (x3 : Int32) (x4 : Int32) (x7 : Int32) (x9 : Int32) (x10 : Int32) (x11 : Int64) (x14 : Int32) (q : z_Sg) : Option (Int64 × z_Sg) :=
  k_Mo_find_233 ih71 x1 x3 x4 x7 x9 x10 x11 x14 (0 : Int32) q
def k_Mo_find_210 (ih71 : Int64 × Int32 × Int32 × Int64 × Int32 × Int32 × Int32 × Int32 × Int64 × Int32 × z_Sg → Option (Int64 × z_Sg)) (x1 : Int64) (x3 : Int32) (x4 : Int32) (x8 : Int32) (x9 : Int32) (x10 : Int32) (x11 : Int64) (x14 : Int32) (t0 : Int32) (q : z_Sg) : Option (Int64 × z_Sg) :=
  if x8 = 0 then (k_Mo_find_232 ih71 x1 x3 x4 t0 x9 x10 x11 x14 q) else (if (x11 &&& (4 : Int64)) = (0 : Int64) then (k_Mo_find_232 ih71 x1 x3 x4 t0 x9 x10 x11 x14 q) else (k_Mo_find_233 ih71 x1 x3 x4 t0 x9 x10 x11 x14 (1 : Int32) q))
def k_Mo_find_209 (ih71 : Int64 × Int32 × Int32 × Int64 × Int32 × Int32 × Int32 × Int32 × Int64 × Int32 × z_Sg → Option (Int64 × z_Sg)) (x1 : Int64) (x3 : Int32) (x4 : Int32) (x8 : Int32) (x9 : Int32) (x10 : Int32) (x11 : Int64) (x14 : Int32) (q : z_Sg) : Option (Int64 × z_Sg) :=
  k_Mo_find_210 ih71 x1 x3 x4 x8 x9 x10 x11 x14 (0 : Int32) q
def k_Mo_find_189 (ih71 : Int64 × Int32 × Int32 × Int64 × Int32 × Int32 × Int32 × Int32 × Int64 × Int32 × z_Sg → Option (Int64 × z_Sg)) (x1 : Int64) (x3 : Int32) (x4 : Int32) (x7 : Int32) (x8 : Int32) (x9 : Int32) (x10 : Int32) (x11 : Int64) (x14 : Int32) (q : z_Sg) : Option (Int64 × z_Sg) :=
  if x7 = 0 then (k_Mo_find_209 ih71 x1 x3 x4 x8 x9 x10 x11 x14 q) else (if (x11 &&& (2 : Int64)) = (0 : Int64) then (k_Mo_find_209 ih71 x1 x3 x4 x8 x9 x10 x11 x14 q) else (k_Mo_find_210 ih71 x1 x3 x4 x8 x9 x10 x11 x14 (1 : Int32) q))
def k_Mo_find_185 (q : z_Sg) : Option (Int64 × z_Sg) :=
  some ((-1 : Int64), q)
def k_Mo_find_130 (ih71 : Int64 × Int32 × Int32 × Int64 × Int32 × Int32 × Int32 × Int32 × Int64 × Int32 × z_Sg → Option (Int64 × z_Sg)) (x1 : Int64) (x3 : Int32) (x4 : Int32) (x7 : Int32) (x8 : Int32) (x9 : Int32) (x10 : Int32) (x11 : Int64) (t0 : Int32) (q : z_Sg) : Option (Int64 × z_Sg) :=
  z_nm (z_sI q 1 x4) (fun q22 => if (x11 &&& (1 : Int64)) = (0 : Int64) then (some ((-1 : Int64), q22)) else (z_nm (z_sI q22 1 (x4 + (9 : Int32))) (fun q24 => if t0 = 0 then (k_Mo_find_189 ih71 x1 x3 x4 x7 x8 x9 x10 x11 t0 q24) else (if (1 : Int32) < x10 then (k_Mo_find_185 q24) else ((f_Mo_bits x11 (13 : Int32) (20 : Int32) q24).bind (fun r39 => if r39 = (0 : Int64) then (k_Mo_find_189 ih71 x1 x3 x4 x7 x8 x9 x10 x11 t0 q24) else (k_Mo_find_185 q24)))))))
def k_Mo_find_129 (ih71 : Int64 × Int32 × Int32 × Int64 × Int32 × Int32 × Int32 × Int32 × Int64 × Int32 × z_Sg → Option (Int64 × z_Sg)) (x1 : Int64) (x3 : Int32) (x4 : Int32) (x7 : Int32) (x8 : Int32) (x9 : Int32) (x10 : Int32) (x11 : Int64) (q : z_Sg) : Option (Int64 × z_Sg) :=
  k_Mo_find_130 ih71 x1 x3 x4 x7 x8 x9 x10 x11 (0 : Int32) q
def kb_Mo_find_71 (ih71 : Int64 × Int32 × Int32 × Int64 × Int32 × Int32 × Int32 × Int32 × Int64 × Int32 × z_Sg → Option (Int64 × z_Sg)) (x1 : Int64) (x3 : Int32) (x4 : Int32) (x5 : Int64) (x7 : Int32) (x8 : Int32) (x9 : Int32) (x10 : Int32) (x11 : Int64) (x13 : Int32) (q : z_Sg) : Option (Int64 × z_Sg) :=
  if x13 = 0 then ((f_Mo_bits x1 ((12 : Int32) + ((9 : Int32) * x10)) ((20 : Int32) + ((9 : Int32) * x10)) q).bind (fun r19 => (f_Mo_eight (x5 + ((8 : Int64) * r19)) q).bind (fun r20 => if x10 ≤ 0 then (k_Mo_find_129 ih71 x1 x3 x4 x7 x8 x9 x10 r20 q) else (if (r20 &&& (128 : Int64)) = (0 : Int64) then (k_Mo_find_129 ih71 x1 x3 x4 x7 x8 x9 x10 r20 q) else (k_Mo_find_130 ih71 x1 x3 x4 x7 x8 x9 x10 r20 (1 : Int32) q))))) else (z_nm (z_sI q 1 (x4 + (1 : Int32))) (fun q8 => if x3 = (1 : Int32) then (if x7 = 0 then (k_Mo_find_336 q8) else (k_Mo_find_314 x1 x3 x5 x8 x9 x10 x11 q8)) else (k_Mo_find_314 x1 x3 x5 x8 x9 x10 x11 q8)))
def k_Mo_find_71 (x1 : Int64) (x3 : Int32) (x4 : Int32) (x5 : Int64) (x7 : Int32) (x8 : Int32) (x9 : Int32) (x10 : Int32) (x11 : Int64) (x13 : Int32) (q : z_Sg) : Option (Int64 × z_Sg) := z_lo (fun ih71 a => kb_Mo_find_71 ih71 a.1 a.2.1 a.2.2.1 a.2.2.2.1 a.2.2.2.2.1 a.2.2.2.2.2.1 a.2.2.2.2.2.2.1 a.2.2.2.2.2.2.2.1 a.2.2.2.2.2.2.2.2.1 a.2.2.2.2.2.2.2.2.2.1 a.2.2.2.2.2.2.2.2.2.2) 2000 (x1, x3, x4, x5, x7, x8, x9, x10, x11, x13, q)
def k_Mo_find_34 (x1 : Int64) (x3 : Int32) (t0 : Int32) (t1 : Int32) (q : z_Sg) : Option (Int64 × z_Sg) :=
  z_nm ((t0 + t1)) (fun n4 => (f_Mo_bits (z_gL q 1) (12 : Int32) (51 : Int32) q).bind (fun r5 => z_nm ((z_lshl r5 (12 : Int32))) (fun n6 => k_Mo_find_71 x1 x3 n4 n6 (1 : Int32) (1 : Int32) (1 : Int32) (3 : Int32) (0 : Int64) (0 : Int32) q)))
def k_Mo_find_22 (x1 : Int64) (x3 : Int32) (t0 : Int32) (t1 : Int32) (q : z_Sg) : Option (Int64 × z_Sg) :=
  if x3 = (2 : Int32) then (k_Mo_find_34 x1 x3 (t0 + t1) (16 : Int32) q) else (k_Mo_find_34 x1 x3 (t0 + t1) (0 : Int32) q)
def k_Mo_find_10 (x1 : Int64) (x3 : Int32) (t0 : Int32) (q : z_Sg) : Option (Int64 × z_Sg) :=
  if (z_gI q 2) = 0 then (k_Mo_find_22 x1 x3 t0 (0 : Int32) q) else (k_Mo_find_22 x1 x3 t0 (4 : Int32) q)
def f_Mo_find (x1 : Int64) (x3 : Int32) (q : z_Sg) : Option (Int64 × z_Sg) :=
  if x3 = (1 : Int32) then (k_Mo_find_10 x1 x3 (2 : Int32) q) else (k_Mo_find_10 x1 x3 (0 : Int32) q)
set_option maxHeartbeats 4000000 in
set_option maxRecDepth 100000 in
theorem w_Mo_find_379 {p : Program} {l : Launch} {e : Env} {s : State} {m : MethodId} {args : Array Value} {below : List Frame} {meth : Method} {c : Code} {D : va_G} {A : Nat → Prop} {ad : Nat → Nat} {ca : Nat → ClassId} (o : (Int64 × z_Sg)) (C0 : z_cx z_RMo b_Mo_find 15 (some .long) D (z_Mt ca) A p s m args meth c) (q : z_Sg) (t0 : Int64) (h : k_Mo_find_379 t0 q = some o) : ∀ (H : Heap) (locs : List Loc) (ls : Array Slot), z_wd D (z_M ad ca q) A s H locs → lv_has ls 15 [] → W p l e (z_rm 2 47) s m args below meth c H locs 0 0 (z_ql below D (z_Mt ca) (z_M ad ca o.2) A s args o.1) (F0 m 379 ls [.long t0]) := by
  obtain ⟨hx, hb, hr, hlk, hml, hown, hts, hK, hA⟩ := id C0
  intro H locs ls hw hl
  have ho := Option.some.inj h
  subst ho
  exact z_rtl C0 hw d_Mo_find_379
set_option maxHeartbeats 4000000 in
set_option maxRecDepth 100000 in
theorem w_Mo_find_340 {p : Program} {l : Launch} {e : Env} {s : State} {m : MethodId} {args : Array Value} {below : List Frame} {meth : Method} {c : Code} {D : va_G} {A : Nat → Prop} {ad : Nat → Nat} {ca : Nat → ClassId} (o : (Int64 × z_Sg)) (C0 : z_cx z_RMo b_Mo_find 15 (some .long) D (z_Mt ca) A p s m args meth c) (q : z_Sg) (x1 : Int64) (x5 : Int64) (x10 : Int32) (x11 : Int64) (h : k_Mo_find_340 x1 x5 x10 x11 q = some o) : ∀ (H : Heap) (locs : List Loc) (ls : Array Slot), z_wd D (z_M ad ca q) A s H locs → lv_has ls 15 [(1, .long x1), (5, .long x5), (10, .int x10), (11, .long x11)] → W p l e (z_rm 2 47) s m args below meth c H locs 0 0 (z_ql below D (z_Mt ca) (z_M ad ca o.2) A s args o.1) (F0 m 340 ls []) := by
  obtain ⟨hx, hb, hr, hlk, hml, hown, hts, hK, hA⟩ := id C0
  intro H locs ls hw hl
  refine lv_iload hx hb d_Mo_find_340 (lv_at hl 2 rfl) ?_
  refine lv_iconst (v := (1 : Int32)) hx hb d_Mo_find_342 (by decide) ?_
  refine lv_icmp_ne (tgt := 369) hx hb d_Mo_find_343 (by decide) (fun c12 => ?_) (fun c12 => ?_)
  · have h := ok_f h c12
    refine lv_lload hx hb d_Mo_find_369 (lv_at hl 1 rfl) ?_
    refine lv_lload_n hx hb d_Mo_find_371 rfl (lv_at hl 0 rfl) ?_
    refine lv_iconst (v := (0 : Int32)) hx hb d_Mo_find_372 (by decide) ?_
    refine lv_bipush (v := (11 : Int32)) hx hb d_Mo_find_373 (by decide) ?_
    obtain ⟨r13, er13, h⟩ := ok_b h
    refine z_sl (rest := [.long x5]) C0 hw (c_Mo_bits x1 (0 : Int32) (11 : Int32) q r13 er13) mw_Mo_bits ml_Mo_56 ⟨Nat.le_of_ble_eq_true rfl, Nat.le_of_ble_eq_true rfl⟩ ⟨Nat.le_refl 0, Nat.le_refl 0⟩ rfl hl.1 rfl (Nat.le_of_ble_eq_true rfl) d_Mo_find_375 (fun H locs hw => ?_)
    refine lv_ladd hx hb d_Mo_find_378 ?_
    exact w_Mo_find_379 o C0 q (x5 + r13) h H locs ls hw (lv_sub hl [] rfl)
  · have h := ok_t h c12
    refine lv_lload hx hb d_Mo_find_346 (lv_at hl 3 rfl) ?_
    refine lv_bipush (v := (21 : Int32)) hx hb d_Mo_find_348 (by decide) ?_
    refine lv_bipush (v := (51 : Int32)) hx hb d_Mo_find_350 (by decide) ?_
    obtain ⟨r14, er14, h⟩ := ok_b h
    refine z_sl (rest := []) C0 hw (c_Mo_bits x11 (21 : Int32) (51 : Int32) q r14 er14) mw_Mo_bits ml_Mo_56 ⟨Nat.le_of_ble_eq_true rfl, Nat.le_of_ble_eq_true rfl⟩ ⟨Nat.le_refl 0, Nat.le_refl 0⟩ rfl hl.1 rfl (Nat.le_of_ble_eq_true rfl) d_Mo_find_352 (fun H locs hw => ?_)
    refine lv_bipush (v := (21 : Int32)) hx hb d_Mo_find_355 (by decide) ?_
    refine lv_lshl (v := (z_lshl r14 (21 : Int32))) hx hb d_Mo_find_357 rfl ?_
    refine lv_lload_n hx hb d_Mo_find_358 rfl (lv_at hl 0 rfl) ?_
    refine lv_iconst (v := (0 : Int32)) hx hb d_Mo_find_359 (by decide) ?_
    refine lv_bipush (v := (20 : Int32)) hx hb d_Mo_find_360 (by decide) ?_
    obtain ⟨r15, er15, h⟩ := ok_b h
    refine z_sl (rest := [.long (z_lshl r14 (21 : Int32))]) C0 hw (c_Mo_bits x1 (0 : Int32) (20 : Int32) q r15 er15) mw_Mo_bits ml_Mo_56 ⟨Nat.le_of_ble_eq_true rfl, Nat.le_of_ble_eq_true rfl⟩ ⟨Nat.le_refl 0, Nat.le_refl 0⟩ rfl hl.1 rfl (Nat.le_of_ble_eq_true rfl) d_Mo_find_362 (fun H locs hw => ?_)
    refine lv_ladd hx hb d_Mo_find_365 ?_
    refine lv_goto (tgt := 379) hx hb d_Mo_find_366 (by decide) ?_
    exact w_Mo_find_379 o C0 q ((z_lshl r14 (21 : Int32)) + r15) h H locs ls hw (lv_sub hl [] rfl)
set_option maxHeartbeats 4000000 in
set_option maxRecDepth 100000 in
theorem w_Mo_find_336 {p : Program} {l : Launch} {e : Env} {s : State} {m : MethodId} {args : Array Value} {below : List Frame} {meth : Method} {c : Code} {D : va_G} {A : Nat → Prop} {ad : Nat → Nat} {ca : Nat → ClassId} (o : (Int64 × z_Sg)) (C0 : z_cx z_RMo b_Mo_find 15 (some .long) D (z_Mt ca) A p s m args meth c) (q : z_Sg) (h : k_Mo_find_336 q = some o) : ∀ (H : Heap) (locs : List Loc) (ls : Array Slot), z_wd D (z_M ad ca q) A s H locs → lv_has ls 15 [] → W p l e (z_rm 2 47) s m args below meth c H locs 0 0 (z_ql below D (z_Mt ca) (z_M ad ca o.2) A s args o.1) (F0 m 336 ls []) := by
  obtain ⟨hx, hb, hr, hlk, hml, hown, hts, hK, hA⟩ := id C0
  intro H locs ls hw hl
  refine lv_ldc2 (own := z_RMo) hx hb hown (hts _ kl_Mo_71) d_Mo_find_336 ?_
  have ho := Option.some.inj h
  subst ho
  exact z_rtl C0 hw d_Mo_find_339
set_option maxHeartbeats 4000000 in
set_option maxRecDepth 100000 in
theorem w_Mo_find_326 {p : Program} {l : Launch} {e : Env} {s : State} {m : MethodId} {args : Array Value} {below : List Frame} {meth : Method} {c : Code} {D : va_G} {A : Nat → Prop} {ad : Nat → Nat} {ca : Nat → ClassId} (o : (Int64 × z_Sg)) (C0 : z_cx z_RMo b_Mo_find 15 (some .long) D (z_Mt ca) A p s m args meth c) (q : z_Sg) (x1 : Int64) (x3 : Int32) (x5 : Int64) (x9 : Int32) (x10 : Int32) (x11 : Int64) (h : k_Mo_find_326 x1 x3 x5 x9 x10 x11 q = some o) : ∀ (H : Heap) (locs : List Loc) (ls : Array Slot), z_wd D (z_M ad ca q) A s H locs → lv_has ls 15 [(1, .long x1), (3, .int x3), (5, .long x5), (9, .int x9), (10, .int x10), (11, .long x11)] → W p l e (z_rm 2 47) s m args below meth c H locs 0 0 (z_ql below D (z_Mt ca) (z_M ad ca o.2) A s args o.1) (F0 m 326 ls []) := by
  obtain ⟨hx, hb, hr, hlk, hml, hown, hts, hK, hA⟩ := id C0
  intro H locs ls hw hl
  refine lv_iload_n hx hb d_Mo_find_326 rfl (lv_at hl 1 rfl) ?_
  refine lv_iconst (v := (2 : Int32)) hx hb d_Mo_find_327 (by decide) ?_
  refine lv_icmp_ne (tgt := 340) hx hb d_Mo_find_328 (by decide) (fun c11 => ?_) (fun c11 => ?_)
  · have h := ok_f h c11
    exact w_Mo_find_340 o C0 q x1 x5 x10 x11 h H locs ls hw (lv_sub hl [0, 2, 4, 5] rfl)
  · have h := ok_t h c11
    refine lv_iload hx hb d_Mo_find_331 (lv_at hl 3 rfl) ?_
    refine lv_if_ne (tgt := 340) hx hb d_Mo_find_333 (by decide) (fun c16 => ?_) (fun c16 => ?_)
    · have h := ok_f h c16
      exact w_Mo_find_340 o C0 q x1 x5 x10 x11 h H locs ls hw (lv_sub hl [0, 2, 4, 5] rfl)
    · have h := ok_t h c16
      exact w_Mo_find_336 o C0 q h H locs ls hw (lv_sub hl [] rfl)
set_option maxHeartbeats 4000000 in
set_option maxRecDepth 100000 in
theorem w_Mo_find_314 {p : Program} {l : Launch} {e : Env} {s : State} {m : MethodId} {args : Array Value} {below : List Frame} {meth : Method} {c : Code} {D : va_G} {A : Nat → Prop} {ad : Nat → Nat} {ca : Nat → ClassId} (o : (Int64 × z_Sg)) (C0 : z_cx z_RMo b_Mo_find 15 (some .long) D (z_Mt ca) A p s m args meth c) (q : z_Sg) (x1 : Int64) (x3 : Int32) (x5 : Int64) (x8 : Int32) (x9 : Int32) (x10 : Int32) (x11 : Int64) (h : k_Mo_find_314 x1 x3 x5 x8 x9 x10 x11 q = some o) : ∀ (H : Heap) (locs : List Loc) (ls : Array Slot), z_wd D (z_M ad ca q) A s H locs → lv_has ls 15 [(0, .ref (ad 0)), (1, .long x1), (3, .int x3), (5, .long x5), (8, .int x8), (9, .int x9), (10, .int x10), (11, .long x11)] → W p l e (z_rm 2 47) s m args below meth c H locs 0 0 (z_ql below D (z_Mt ca) (z_M ad ca o.2) A s args o.1) (F0 m 314 ls []) := by
  obtain ⟨hx, hb, hr, hlk, hml, hown, hts, hK, hA⟩ := id C0
  intro H locs ls hw hl
  refine lv_aload_n hx hb d_Mo_find_314 rfl (lv_at hl 0 rfl) ?_
  refine gfM_0_user C0 hw fl_Mo_48 d_Mo_find_315 ?_
  refine lv_if_eq (tgt := 326) hx hb d_Mo_find_318 (by decide) (fun c10 => ?_) (fun c10 => ?_)
  · have h := ok_t h c10
    exact w_Mo_find_326 o C0 q x1 x3 x5 x9 x10 x11 h H locs ls hw (lv_sub hl [1, 2, 3, 5, 6, 7] rfl)
  · have h := ok_f h c10
    refine lv_iload hx hb d_Mo_find_321 (lv_at hl 4 rfl) ?_
    refine lv_if_eq (tgt := 336) hx hb d_Mo_find_323 (by decide) (fun c17 => ?_) (fun c17 => ?_)
    · have h := ok_t h c17
      exact w_Mo_find_336 o C0 q h H locs ls hw (lv_sub hl [] rfl)
    · have h := ok_f h c17
      exact w_Mo_find_326 o C0 q x1 x3 x5 x9 x10 x11 h H locs ls hw (lv_sub hl [1, 2, 3, 5, 6, 7] rfl)
set_option maxHeartbeats 4000000 in
set_option maxRecDepth 100000 in
theorem w_Mo_find_293 {p : Program} {l : Launch} {e : Env} {s : State} {m : MethodId} {args : Array Value} {below : List Frame} {meth : Method} {c : Code} {D : va_G} {A : Nat → Prop} {ad : Nat → Nat} {ca : Nat → ClassId} (o : (Int64 × z_Sg)) (C0 : z_cx z_RMo b_Mo_find 15 (some .long) D (z_Mt ca) A p s m args meth c) (q : z_Sg) (ih71 : Int64 × Int32 × Int32 × Int64 × Int32 × Int32 × Int32 × Int32 × Int64 × Int32 × z_Sg → Option (Int64 × z_Sg)) (hi71 : ∀ a : Int64 × Int32 × Int32 × Int64 × Int32 × Int32 × Int32 × Int32 × Int64 × Int32 × z_Sg, ih71 a = some o → ∀ (H : Heap) (locs : List Loc) (ls : Array Slot), z_wd D (z_M ad ca a.2.2.2.2.2.2.2.2.2.2) A s H locs → lv_has ls 15 [(0, .ref (ad 0)), (1, .long a.1), (3, .int a.2.1), (4, .int a.2.2.1), (5, .long a.2.2.2.1), (7, .int a.2.2.2.2.1), (8, .int a.2.2.2.2.2.1), (9, .int a.2.2.2.2.2.2.1), (10, .int a.2.2.2.2.2.2.2.1), (11, .long a.2.2.2.2.2.2.2.2.1), (13, .int a.2.2.2.2.2.2.2.2.2.1)] → W p l e (z_rm 2 47) s m args below meth c H locs 0 0 (z_ql below D (z_Mt ca) (z_M ad ca o.2) A s args o.1) (F0 m 71 ls [])) (x1 : Int64) (x3 : Int32) (x4 : Int32) (x5 : Int64) (x7 : Int32) (x8 : Int32) (x9 : Int32) (x10 : Int32) (x11 : Int64) (x13 : Int32) (h : k_Mo_find_293 ih71 x1 x3 x4 x5 x7 x8 x9 x10 x11 x13 q = some o) : ∀ (H : Heap) (locs : List Loc) (ls : Array Slot), z_wd D (z_M ad ca q) A s H locs → lv_has ls 15 [(0, .ref (ad 0)), (1, .long x1), (3, .int x3), (4, .int x4), (5, .long x5), (7, .int x7), (8, .int x8), (9, .int x9), (10, .int x10), (11, .long x11), (13, .int x13)] → W p l e (z_rm 2 47) s m args below meth c H locs 0 0 (z_ql below D (z_Mt ca) (z_M ad ca o.2) A s args o.1) (F0 m 293 ls []) := by
  obtain ⟨hx, hb, hr, hlk, hml, hown, hts, hK, hA⟩ := id C0
  intro H locs ls hw hl
  refine lv_goto (tgt := 71) hx hb d_Mo_find_293 (by decide) ?_
  exact hi71 (x1, x3, x4, x5, x7, x8, x9, x10, x11, x13, q) h H locs ls hw (lv_sub hl [0, 1, 2, 3, 4, 5, 6, 7, 8, 9, 10] rfl)
set_option maxHeartbeats 4000000 in
set_option maxRecDepth 100000 in
theorem w_Mo_find_283 {p : Program} {l : Launch} {e : Env} {s : State} {m : MethodId} {args : Array Value} {below : List Frame} {meth : Method} {c : Code} {D : va_G} {A : Nat → Prop} {ad : Nat → Nat} {ca : Nat → ClassId} (o : (Int64 × z_Sg)) (C0 : z_cx z_RMo b_Mo_find 15 (some .long) D (z_Mt ca) A p s m args meth c) (q : z_Sg) (ih71 : Int64 × Int32 × Int32 × Int64 × Int32 × Int32 × Int32 × Int32 × Int64 × Int32 × z_Sg → Option (Int64 × z_Sg)) (hi71 : ∀ a : Int64 × Int32 × Int32 × Int64 × Int32 × Int32 × Int32 × Int32 × Int64 × Int32 × z_Sg, ih71 a = some o → ∀ (H : Heap) (locs : List Loc) (ls : Array Slot), z_wd D (z_M ad ca a.2.2.2.2.2.2.2.2.2.2) A s H locs → lv_has ls 15 [(0, .ref (ad 0)), (1, .long a.1), (3, .int a.2.1), (4, .int a.2.2.1), (5, .long a.2.2.2.1), (7, .int a.2.2.2.2.1), (8, .int a.2.2.2.2.2.1), (9, .int a.2.2.2.2.2.2.1), (10, .int a.2.2.2.2.2.2.2.1), (11, .long a.2.2.2.2.2.2.2.2.1), (13, .int a.2.2.2.2.2.2.2.2.2.1)] → W p l e (z_rm 2 47) s m args below meth c H locs 0 0 (z_ql below D (z_Mt ca) (z_M ad ca o.2) A s args o.1) (F0 m 71 ls [])) (x1 : Int64) (x3 : Int32) (x4 : Int32) (x5 : Int64) (x7 : Int32) (x8 : Int32) (x9 : Int32) (x10 : Int32) (x11 : Int64) (t0 : Int32) (h : k_Mo_find_283 ih71 x1 x3 x4 x5 x7 x8 x9 x10 x11 t0 q = some o) : ∀ (H : Heap) (locs : List Loc) (ls : Array Slot), z_wd D (z_M ad ca q) A s H locs → lv_has ls 15 [(0, .ref (ad 0)), (1, .long x1), (3, .int x3), (4, .int x4), (5, .long x5), (7, .int x7), (8, .int x8), (9, .int x9), (10, .int x10), (11, .long x11)] → W p l e (z_rm 2 47) s m args below meth c H locs 0 0 (z_ql below D (z_Mt ca) (z_M ad ca o.2) A s args o.1) (F0 m 283 ls [.int t0]) := by
  obtain ⟨hx, hb, hr, hlk, hml, hown, hts, hK, hA⟩ := id C0
  intro H locs ls hw hl
  refine lv_istore (lv' := [(13, .int t0), (0, .ref (ad 0)), (1, .long x1), (3, .int x3), (4, .int x4), (5, .long x5), (7, .int x7), (8, .int x8), (9, .int x9), (10, .int x10), (11, .long x11)]) hx hb d_Mo_find_283 hl (by decide) rfl (fun ls hl => ?_)
  refine lv_iload hx hb d_Mo_find_285 (lv_at hl 0 rfl) ?_
  refine lv_if_ne (tgt := 293) hx hb d_Mo_find_287 (by decide) (fun c32 => ?_) (fun c32 => ?_)
  · have h := ok_f h c32
    exact w_Mo_find_293 o C0 q ih71 hi71 x1 x3 x4 x5 x7 x8 x9 x10 x11 t0 h H locs ls hw (lv_sub hl [1, 2, 3, 4, 5, 6, 7, 8, 9, 10, 0] rfl)
  · have h := ok_t h c32
    obtain ⟨n33, en33, h⟩ := ok_n h
    refine lv_iinc (v := n33) (lv' := [(10, .int n33), (13, .int t0), (0, .ref (ad 0)), (1, .long x1), (3, .int x3), (4, .int x4), (5, .long x5), (7, .int x7), (8, .int x8), (9, .int x9), (11, .long x11)]) hx hb d_Mo_find_290 hl (k := 9) rfl (by rw [en33]; rfl) (by decide) rfl (fun ls hl => ?_)
    exact w_Mo_find_293 o C0 q ih71 hi71 x1 x3 x4 x5 x7 x8 x9 n33 x11 t0 h H locs ls hw (lv_sub hl [2, 3, 4, 5, 6, 7, 8, 9, 0, 10, 1] rfl)
set_option maxHeartbeats 4000000 in
set_option maxRecDepth 100000 in
theorem w_Mo_find_278 {p : Program} {l : Launch} {e : Env} {s : State} {m : MethodId} {args : Array Value} {below : List Frame} {meth : Method} {c : Code} {D : va_G} {A : Nat → Prop} {ad : Nat → Nat} {ca : Nat → ClassId} (o : (Int64 × z_Sg)) (C0 : z_cx z_RMo b_Mo_find 15 (some .long) D (z_Mt ca) A p s m args meth c) (q : z_Sg) (ih71 : Int64 × Int32 × Int32 × Int64 × Int32 × Int32 × Int32 × Int32 × Int64 × Int32 × z_Sg → Option (Int64 × z_Sg)) (hi71 : ∀ a : Int64 × Int32 × Int32 × Int64 × Int32 × Int32 × Int32 × Int32 × Int64 × Int32 × z_Sg, ih71 a = some o → ∀ (H : Heap) (locs : List Loc) (ls : Array Slot), z_wd D (z_M ad ca a.2.2.2.2.2.2.2.2.2.2) A s H locs → lv_has ls 15 [(0, .ref (ad 0)), (1, .long a.1), (3, .int a.2.1), (4, .int a.2.2.1), (5, .long a.2.2.2.1), (7, .int a.2.2.2.2.1), (8, .int a.2.2.2.2.2.1), (9, .int a.2.2.2.2.2.2.1), (10, .int a.2.2.2.2.2.2.2.1), (11, .long a.2.2.2.2.2.2.2.2.1), (13, .int a.2.2.2.2.2.2.2.2.2.1)] → W p l e (z_rm 2 47) s m args below meth c H locs 0 0 (z_ql below D (z_Mt ca) (z_M ad ca o.2) A s args o.1) (F0 m 71 ls [])) (x1 : Int64) (x3 : Int32) (x4 : Int32) (x5 : Int64) (x7 : Int32) (x8 : Int32) (x9 : Int32) (x10 : Int32) (x11 : Int64) (h : k_Mo_find_278 ih71 x1 x3 x4 x5 x7 x8 x9 x10 x11 q = some o) : ∀ (H : Heap) (locs : List Loc) (ls : Array Slot), z_wd D (z_M ad ca q) A s H locs → lv_has ls 15 [(0, .ref (ad 0)), (1, .long x1), (3, .int x3), (4, .int x4), (5, .long x5), (7, .int x7), (8, .int x8), (9, .int x9), (10, .int x10), (11, .long x11)] → W p l e (z_rm 2 47) s m args below meth c H locs 0 0 (z_ql below D (z_Mt ca) (z_M ad ca o.2) A s args o.1) (F0 m 278 ls []) := by
  obtain ⟨hx, hb, hr, hlk, hml, hown, hts, hK, hA⟩ := id C0
  intro H locs ls hw hl
  refine lv_iconst (v := (1 : Int32)) hx hb d_Mo_find_278 (by decide) ?_
  refine lv_goto (tgt := 283) hx hb d_Mo_find_279 (by decide) ?_
  exact w_Mo_find_283 o C0 q ih71 hi71 x1 x3 x4 x5 x7 x8 x9 x10 x11 (1 : Int32) h H locs ls hw (lv_sub hl [0, 1, 2, 3, 4, 5, 6, 7, 8, 9] rfl)
set_option maxHeartbeats 4000000 in
set_option maxRecDepth 100000 in
theorem w_Mo_find_252 {p : Program} {l : Launch} {e : Env} {s : State} {m : MethodId} {args : Array Value} {below : List Frame} {meth : Method} {c : Code} {D : va_G} {A : Nat → Prop} {ad : Nat → Nat} {ca : Nat → ClassId} (o : (Int64 × z_Sg)) (C0 : z_cx z_RMo b_Mo_find 15 (some .long) D (z_Mt ca) A p s m args meth c) (q : z_Sg) (ih71 : Int64 × Int32 × Int32 × Int64 × Int32 × Int32 × Int32 × Int32 × Int64 × Int32 × z_Sg → Option (Int64 × z_Sg)) (hi71 : ∀ a : Int64 × Int32 × Int32 × Int64 × Int32 × Int32 × Int32 × Int32 × Int64 × Int32 × z_Sg, ih71 a = some o → ∀ (H : Heap) (locs : List Loc) (ls : Array Slot), z_wd D (z_M ad ca a.2.2.2.2.2.2.2.2.2.2) A s H locs → lv_has ls 15 [(0, .ref (ad 0)), (1, .long a.1), (3, .int a.2.1), (4, .int a.2.2.1), (5, .long a.2.2.2.1), (7, .int a.2.2.2.2.1), (8, .int a.2.2.2.2.2.1), (9, .int a.2.2.2.2.2.2.1), (10, .int a.2.2.2.2.2.2.2.1), (11, .long a.2.2.2.2.2.2.2.2.1), (13, .int a.2.2.2.2.2.2.2.2.2.1)] → W p l e (z_rm 2 47) s m args below meth c H locs 0 0 (z_ql below D (z_Mt ca) (z_M ad ca o.2) A s args o.1) (F0 m 71 ls [])) (x1 : Int64) (x3 : Int32) (x4 : Int32) (x7 : Int32) (x8 : Int32) (x10 : Int32) (x11 : Int64) (x14 : Int32) (t0 : Int32) (h : k_Mo_find_252 ih71 x1 x3 x4 x7 x8 x10 x11 x14 t0 q = some o) : ∀ (H : Heap) (locs : List Loc) (ls : Array Slot), z_wd D (z_M ad ca q) A s H locs → lv_has ls 15 [(0, .ref (ad 0)), (1, .long x1), (3, .int x3), (4, .int x4), (7, .int x7), (8, .int x8), (10, .int x10), (11, .long x11), (14, .int x14)] → W p l e (z_rm 2 47) s m args below meth c H locs 0 0 (z_ql below D (z_Mt ca) (z_M ad ca o.2) A s args o.1) (F0 m 252 ls [.int t0]) := by
  obtain ⟨hx, hb, hr, hlk, hml, hown, hts, hK, hA⟩ := id C0
  intro H locs ls hw hl
  refine lv_istore (lv' := [(9, .int t0), (0, .ref (ad 0)), (1, .long x1), (3, .int x3), (4, .int x4), (7, .int x7), (8, .int x8), (10, .int x10), (11, .long x11), (14, .int x14)]) hx hb d_Mo_find_252 hl (by decide) rfl (fun ls hl => ?_)
  refine lv_lload hx hb d_Mo_find_254 (lv_at hl 8 rfl) ?_
  refine lv_bipush (v := (12 : Int32)) hx hb d_Mo_find_256 (by decide) ?_
  refine lv_bipush (v := (51 : Int32)) hx hb d_Mo_find_258 (by decide) ?_
  obtain ⟨r29, er29, h⟩ := ok_b h
  refine z_sl (rest := []) C0 hw (c_Mo_bits x11 (12 : Int32) (51 : Int32) q r29 er29) mw_Mo_bits ml_Mo_56 ⟨Nat.le_of_ble_eq_true rfl, Nat.le_of_ble_eq_true rfl⟩ ⟨Nat.le_refl 0, Nat.le_refl 0⟩ rfl hl.1 rfl (Nat.le_of_ble_eq_true rfl) d_Mo_find_260 (fun H locs hw => ?_)
  refine lv_bipush (v := (12 : Int32)) hx hb d_Mo_find_263 (by decide) ?_
  refine lv_lshl (v := (z_lshl r29 (12 : Int32))) hx hb d_Mo_find_265 rfl ?_
  obtain ⟨n30, en30, h⟩ := ok_n h
  refine z_tl en30 ?_
  refine lv_lstore (lv' := [(5, .long n30), (9, .int t0), (0, .ref (ad 0)), (1, .long x1), (3, .int x3), (4, .int x4), (7, .int x7), (8, .int x8), (10, .int x10), (11, .long x11), (14, .int x14)]) hx hb d_Mo_find_266 hl (by decide) rfl (fun ls hl => ?_)
  refine lv_iload hx hb d_Mo_find_268 (lv_at hl 10 rfl) ?_
  refine lv_if_ne (tgt := 278) hx hb d_Mo_find_270 (by decide) (fun c31 => ?_) (fun c31 => ?_)
  · have h := ok_f h c31
    exact w_Mo_find_278 o C0 q ih71 hi71 x1 x3 x4 n30 x7 x8 t0 x10 x11 h H locs ls hw (lv_sub hl [2, 3, 4, 5, 0, 6, 7, 1, 8, 9] rfl)
  · have h := ok_t h c31
    refine lv_iload hx hb d_Mo_find_273 (lv_at hl 8 rfl) ?_
    refine lv_if_ne (tgt := 282) hx hb d_Mo_find_275 (by decide) (fun c34 => ?_) (fun c34 => ?_)
    · have h := ok_f h c34
      refine lv_iconst (v := (0 : Int32)) hx hb d_Mo_find_282 (by decide) ?_
      exact w_Mo_find_283 o C0 q ih71 hi71 x1 x3 x4 n30 x7 x8 t0 x10 x11 (0 : Int32) h H locs ls hw (lv_sub hl [2, 3, 4, 5, 0, 6, 7, 1, 8, 9] rfl)
    · have h := ok_t h c34
      exact w_Mo_find_278 o C0 q ih71 hi71 x1 x3 x4 n30 x7 x8 t0 x10 x11 h H locs ls hw (lv_sub hl [2, 3, 4, 5, 0, 6, 7, 1, 8, 9] rfl)
set_option maxHeartbeats 4000000 in
set_option maxRecDepth 100000 in
theorem w_Mo_find_251 {p : Program} {l : Launch} {e : Env} {s : State} {m : MethodId} {args : Array Value} {below : List Frame} {meth : Method} {c : Code} {D : va_G} {A : Nat → Prop} {ad : Nat → Nat} {ca : Nat → ClassId} (o : (Int64 × z_Sg)) (C0 : z_cx z_RMo b_Mo_find 15 (some .long) D (z_Mt ca) A p s m args meth c) (q : z_Sg) (ih71 : Int64 × Int32 × Int32 × Int64 × Int32 × Int32 × Int32 × Int32 × Int64 × Int32 × z_Sg → Option (Int64 × z_Sg)) (hi71 : ∀ a : Int64 × Int32 × Int32 × Int64 × Int32 × Int32 × Int32 × Int32 × Int64 × Int32 × z_Sg, ih71 a = some o → ∀ (H : Heap) (locs : List Loc) (ls : Array Slot), z_wd D (z_M ad ca a.2.2.2.2.2.2.2.2.2.2) A s H locs → lv_has ls 15 [(0, .ref (ad 0)), (1, .long a.1), (3, .int a.2.1), (4, .int a.2.2.1), (5, .long a.2.2.2.1), (7, .int a.2.2.2.2.1), (8, .int a.2.2.2.2.2.1), (9, .int a.2.2.2.2.2.2.1), (10, .int a.2.2.2.2.2.2.2.1), (11, .long a.2.2.2.2.2.2.2.2.1), (13, .int a.2.2.2.2.2.2.2.2.2.1)] → W p l e (z_rm 2 47) s m args below meth c H locs 0 0 (z_ql below D (z_Mt ca) (z_M ad ca o.2) A s args o.1) (F0 m 71 ls [])) (x1 : Int64) (x3 : Int32) (x4 : Int32) (x7 : Int32) (x8 : Int32) (x10 : Int32) (x11 : Int64) (x14 : Int32) (h : k_Mo_find_251 ih71 x1 x3 x4 x7 x8 x10 x11 x14 q = some o) : ∀ (H : Heap) (locs : List Loc) (ls : Array Slot), z_wd D (z_M ad ca q) A s H locs → lv_has ls 15 [(0, .ref (ad 0)), (1, .long x1), (3, .int x3), (4, .int x4), (7, .int x7), (8, .int x8), (10, .int x10), (11, .long x11), (14, .int x14)] → W p l e (z_rm 2 47) s m args below meth c H locs 0 0 (z_ql below D (z_Mt ca) (z_M ad ca o.2) A s args o.1) (F0 m 251 ls []) := by
  obtain ⟨hx, hb, hr, hlk, hml, hown, hts, hK, hA⟩ := id C0
  intro H locs ls hw hl
  refine lv_iconst (v := (0 : Int32)) hx hb d_Mo_find_251 (by decide) ?_
  exact w_Mo_find_252 o C0 q ih71 hi71 x1 x3 x4 x7 x8 x10 x11 x14 (0 : Int32) h H locs ls hw (lv_sub hl [0, 1, 2, 3, 4, 5, 6, 7, 8] rfl)
set_option maxHeartbeats 4000000 in
set_option maxRecDepth 100000 in
theorem w_Mo_find_233 {p : Program} {l : Launch} {e : Env} {s : State} {m : MethodId} {args : Array Value} {below : List Frame} {meth : Method} {c : Code} {D : va_G} {A : Nat → Prop} {ad : Nat → Nat} {ca : Nat → ClassId} (o : (Int64 × z_Sg)) (C0 : z_cx z_RMo b_Mo_find 15 (some .long) D (z_Mt ca) A p s m args meth c) (q : z_Sg) (ih71 : Int64 × Int32 × Int32 × Int64 × Int32 × Int32 × Int32 × Int32 × Int64 × Int32 × z_Sg → Option (Int64 × z_Sg)) (hi71 : ∀ a : Int64 × Int32 × Int32 × Int64 × Int32 × Int32 × Int32 × Int32 × Int64 × Int32 × z_Sg, ih71 a = some o → ∀ (H : Heap) (locs : List Loc) (ls : Array Slot), z_wd D (z_M ad ca a.2.2.2.2.2.2.2.2.2.2) A s H locs → lv_has ls 15 [(0, .ref (ad 0)), (1, .long a.1), (3, .int a.2.1), (4, .int a.2.2.1), (5, .long a.2.2.2.1), (7, .int a.2.2.2.2.1), (8, .int a.2.2.2.2.2.1), (9, .int a.2.2.2.2.2.2.1), (10, .int a.2.2.2.2.2.2.2.1), (11, .long a.2.2.2.2.2.2.2.2.1), (13, .int a.2.2.2.2.2.2.2.2.2.1)] → W p l e (z_rm 2 47) s m args below meth c H locs 0 0 (z_ql below D (z_Mt ca) (z_M ad ca o.2) A s args o.1) (F0 m 71 ls [])) (x1 : Int64) (x3 : Int32) (x4 : Int32) (x7 : Int32) (x9 : Int32) (x10 : Int32) (x11 : Int64) (x14 : Int32) (t0 : Int32) (h : k_Mo_find_233 ih71 x1 x3 x4 x7 x9 x10 x11 x14 t0 q = some o) : ∀ (H : Heap) (locs : List Loc) (ls : Array Slot), z_wd D (z_M ad ca q) A s H locs → lv_has ls 15 [(0, .ref (ad 0)), (1, .long x1), (3, .int x3), (4, .int x4), (7, .int x7), (9, .int x9), (10, .int x10), (11, .long x11), (14, .int x14)] → W p l e (z_rm 2 47) s m args below meth c H locs 0 0 (z_ql below D (z_Mt ca) (z_M ad ca o.2) A s args o.1) (F0 m 233 ls [.int t0]) := by
  obtain ⟨hx, hb, hr, hlk, hml, hown, hts, hK, hA⟩ := id C0
  intro H locs ls hw hl
  refine lv_istore (lv' := [(8, .int t0), (0, .ref (ad 0)), (1, .long x1), (3, .int x3), (4, .int x4), (7, .int x7), (9, .int x9), (10, .int x10), (11, .long x11), (14, .int x14)]) hx hb d_Mo_find_233 hl (by decide) rfl (fun ls hl => ?_)
  refine lv_iload hx hb d_Mo_find_235 (lv_at hl 6 rfl) ?_
  refine lv_if_eq (tgt := 251) hx hb d_Mo_find_237 (by decide) (fun c28 => ?_) (fun c28 => ?_)
  · have h := ok_t h c28
    exact w_Mo_find_251 o C0 q ih71 hi71 x1 x3 x4 x7 t0 x10 x11 x14 h H locs ls hw (lv_sub hl [1, 2, 3, 4, 5, 0, 7, 8, 9] rfl)
  · have h := ok_f h c28
    refine lv_lload hx hb d_Mo_find_240 (lv_at hl 8 rfl) ?_
    refine lv_lconst (v := (0 : Int64)) hx hb d_Mo_find_242 (by decide) ?_
    refine W.lcmp hx hb d_Mo_find_243 ?_
    refine lv_if_lt (tgt := 251) hx hb d_Mo_find_244 (by decide) (fun c35 => ?_) (fun c35 => ?_)
    · have h := ok_t h ((lg_cmp_lt _ _).mp c35)
      exact w_Mo_find_251 o C0 q ih71 hi71 x1 x3 x4 x7 t0 x10 x11 x14 h H locs ls hw (lv_sub hl [1, 2, 3, 4, 5, 0, 7, 8, 9] rfl)
    · have h := ok_f h (fun z => c35 ((lg_cmp_lt _ _).mpr z))
      refine lv_iconst (v := (1 : Int32)) hx hb d_Mo_find_247 (by decide) ?_
      refine lv_goto (tgt := 252) hx hb d_Mo_find_248 (by decide) ?_
      exact w_Mo_find_252 o C0 q ih71 hi71 x1 x3 x4 x7 t0 x10 x11 x14 (1 : Int32) h H locs ls hw (lv_sub hl [1, 2, 3, 4, 5, 0, 7, 8, 9] rfl)
set_option maxHeartbeats 4000000 in
set_option maxRecDepth 100000 in
theorem w_Mo_find_232 {p : Program} {l : Launch} {e : Env} {s : State} {m : MethodId} {args : Array Value} {below : List Frame} {meth : Method} {c : Code} {D : va_G} {A : Nat → Prop} {ad : Nat → Nat} {ca : Nat → ClassId} (o : (Int64 × z_Sg)) (C0 : z_cx z_RMo b_Mo_find 15 (some .long) D (z_Mt ca) A p s m args meth c) (q : z_Sg) (ih71 : Int64 × Int32 × Int32 × Int64 × Int32 × Int32 × Int32 × Int32 × Int64 × Int32 × z_Sg → Option (Int64 × z_Sg)) (hi71 : ∀ a : Int64 × Int32 × Int32 × Int64 × Int32 × Int32 × Int32 × Int32 × Int64 × Int32 × z_Sg, ih71 a = some o → ∀ (H : Heap) (locs : List Loc) (ls : Array Slot), z_wd D (z_M ad ca a.2.2.2.2.2.2.2.2.2.2) A s H locs → lv_has ls 15 [(0, .ref (ad 0)), (1, .long a.1), (3, .int a.2.1), (4, .int a.2.2.1), (5, .long a.2.2.2.1), (7, .int a.2.2.2.2.1), (8, .int a.2.2.2.2.2.1), (9, .int a.2.2.2.2.2.2.1), (10, .int a.2.2.2.2.2.2.2.1), (11, .long a.2.2.2.2.2.2.2.2.1), (13, .int a.2.2.2.2.2.2.2.2.2.1)] → W p l e (z_rm 2 47) s m args below meth c H locs 0 0 (z_ql below D (z_Mt ca) (z_M ad ca o.2) A s args o.1) (F0 m 71 ls [])) (x1 : Int64) (x3 : Int32) (x4 : Int32) (x7 : Int32) (x9 : Int32) (x10 : Int32) (x11 : Int64) (x14 : Int32) (h : k_Mo_find_232 ih71 x1 x3 x4 x7 x9 x10 x11 x14 q = some o) : ∀ (H : Heap) (locs : List Loc) (ls : Array Slot), z_wd D (z_M ad ca q) A s H locs → lv_has ls 15 [(0, .ref (ad 0)), (1, .long x1), (3, .int x3), (4, .int x4), (7, .int x7), (9, .int x9), (10, .int x10), (11, .long x11), (14, .int x14)] → W p l e (z_rm 2 47) s m args below meth c H locs 0 0 (z_ql below D (z_Mt ca) (z_M ad ca o.2) A s args o.1) (F0 m 232 ls []) := by
  obtain ⟨hx, hb, hr, hlk, hml, hown, hts, hK, hA⟩ := id C0
  intro H locs ls hw hl
  refine lv_iconst (v := (0 : Int32)) hx hb d_Mo_find_232 (by decide) ?_
  exact w_Mo_find_233 o C0 q ih71 hi71 x1 x3 x4 x7 x9 x10 x11 x14 (0 : Int32) h H locs ls hw (lv_sub hl [0, 1, 2, 3, 4, 5, 6, 7, 8] rfl)
set_option maxHeartbeats 4000000 in
set_option maxRecDepth 100000 in
theorem w_Mo_find_210 {p : Program} {l : Launch} {e : Env} {s : State} {m : MethodId} {args : Array Value} {below : List Frame} {meth : Method} {c : Code} {D : va_G} {A : Nat → Prop} {ad : Nat → Nat} {ca : Nat → ClassId} (o : (Int64 × z_Sg)) (C0 : z_cx z_RMo b_Mo_find 15 (some .long) D (z_Mt ca) A p s m args meth c) (q : z_Sg) (ih71 : Int64 × Int32 × Int32 × Int64 × Int32 × Int32 × Int32 × Int32 × Int64 × Int32 × z_Sg → Option (Int64 × z_Sg)) (hi71 : ∀ a : Int64 × Int32 × Int32 × Int64 × Int32 × Int32 × Int32 × Int32 × Int64 × Int32 × z_Sg, ih71 a = some o → ∀ (H : Heap) (locs : List Loc) (ls : Array Slot), z_wd D (z_M ad ca a.2.2.2.2.2.2.2.2.2.2) A s H locs → lv_has ls 15 [(0, .ref (ad 0)), (1, .long a.1), (3, .int a.2.1), (4, .int a.2.2.1), (5, .long a.2.2.2.1), (7, .int a.2.2.2.2.1), (8, .int a.2.2.2.2.2.1), (9, .int a.2.2.2.2.2.2.1), (10, .int a.2.2.2.2.2.2.2.1), (11, .long a.2.2.2.2.2.2.2.2.1), (13, .int a.2.2.2.2.2.2.2.2.2.1)] → W p l e (z_rm 2 47) s m args below meth c H locs 0 0 (z_ql below D (z_Mt ca) (z_M ad ca o.2) A s args o.1) (F0 m 71 ls [])) (x1 : Int64) (x3 : Int32) (x4 : Int32) (x8 : Int32) (x9 : Int32) (x10 : Int32) (x11 : Int64) (x14 : Int32) (t0 : Int32) (h : k_Mo_find_210 ih71 x1 x3 x4 x8 x9 x10 x11 x14 t0 q = some o) : ∀ (H : Heap) (locs : List Loc) (ls : Array Slot), z_wd D (z_M ad ca q) A s H locs → lv_has ls 15 [(0, .ref (ad 0)), (1, .long x1), (3, .int x3), (4, .int x4), (8, .int x8), (9, .int x9), (10, .int x10), (11, .long x11), (14, .int x14)] → W p l e (z_rm 2 47) s m args below meth c H locs 0 0 (z_ql below D (z_Mt ca) (z_M ad ca o.2) A s args o.1) (F0 m 210 ls [.int t0]) := by
  obtain ⟨hx, hb, hr, hlk, hml, hown, hts, hK, hA⟩ := id C0
  intro H locs ls hw hl
  refine lv_istore (lv' := [(7, .int t0), (0, .ref (ad 0)), (1, .long x1), (3, .int x3), (4, .int x4), (8, .int x8), (9, .int x9), (10, .int x10), (11, .long x11), (14, .int x14)]) hx hb d_Mo_find_210 hl (by decide) rfl (fun ls hl => ?_)
  refine lv_iload hx hb d_Mo_find_212 (lv_at hl 5 rfl) ?_
  refine lv_if_eq (tgt := 232) hx hb d_Mo_find_214 (by decide) (fun c27 => ?_) (fun c27 => ?_)
  · have h := ok_t h c27
    exact w_Mo_find_232 o C0 q ih71 hi71 x1 x3 x4 t0 x9 x10 x11 x14 h H locs ls hw (lv_sub hl [1, 2, 3, 4, 0, 6, 7, 8, 9] rfl)
  · have h := ok_f h c27
    refine lv_lload hx hb d_Mo_find_217 (lv_at hl 8 rfl) ?_
    refine lv_ldc2 (own := z_RMo) hx hb hown (hts _ kl_Mo_75) d_Mo_find_219 ?_
    refine lv_land hx hb d_Mo_find_222 ?_
    refine lv_lconst (v := (0 : Int64)) hx hb d_Mo_find_223 (by decide) ?_
    refine W.lcmp hx hb d_Mo_find_224 ?_
    refine lv_if_eq (tgt := 232) hx hb d_Mo_find_225 (by decide) (fun c36 => ?_) (fun c36 => ?_)
    · have h := ok_t h ((lg_cmp_eq _ _).mp c36)
      exact w_Mo_find_232 o C0 q ih71 hi71 x1 x3 x4 t0 x9 x10 x11 x14 h H locs ls hw (lv_sub hl [1, 2, 3, 4, 0, 6, 7, 8, 9] rfl)
    · have h := ok_f h (fun z => c36 ((lg_cmp_eq _ _).mpr z))
      refine lv_iconst (v := (1 : Int32)) hx hb d_Mo_find_228 (by decide) ?_
      refine lv_goto (tgt := 233) hx hb d_Mo_find_229 (by decide) ?_
      exact w_Mo_find_233 o C0 q ih71 hi71 x1 x3 x4 t0 x9 x10 x11 x14 (1 : Int32) h H locs ls hw (lv_sub hl [1, 2, 3, 4, 0, 6, 7, 8, 9] rfl)
set_option maxHeartbeats 4000000 in
set_option maxRecDepth 100000 in
theorem w_Mo_find_209 {p : Program} {l : Launch} {e : Env} {s : State} {m : MethodId} {args : Array Value} {below : List Frame} {meth : Method} {c : Code} {D : va_G} {A : Nat → Prop} {ad : Nat → Nat} {ca : Nat → ClassId} (o : (Int64 × z_Sg)) (C0 : z_cx z_RMo b_Mo_find 15 (some .long) D (z_Mt ca) A p s m args meth c) (q : z_Sg) (ih71 : Int64 × Int32 × Int32 × Int64 × Int32 × Int32 × Int32 × Int32 × Int64 × Int32 × z_Sg → Option (Int64 × z_Sg)) (hi71 : ∀ a : Int64 × Int32 × Int32 × Int64 × Int32 × Int32 × Int32 × Int32 × Int64 × Int32 × z_Sg, ih71 a = some o → ∀ (H : Heap) (locs : List Loc) (ls : Array Slot), z_wd D (z_M ad ca a.2.2.2.2.2.2.2.2.2.2) A s H locs → lv_has ls 15 [(0, .ref (ad 0)), (1, .long a.1), (3, .int a.2.1), (4, .int a.2.2.1), (5, .long a.2.2.2.1), (7, .int a.2.2.2.2.1), (8, .int a.2.2.2.2.2.1), (9, .int a.2.2.2.2.2.2.1), (10, .int a.2.2.2.2.2.2.2.1), (11, .long a.2.2.2.2.2.2.2.2.1), (13, .int a.2.2.2.2.2.2.2.2.2.1)] → W p l e (z_rm 2 47) s m args below meth c H locs 0 0 (z_ql below D (z_Mt ca) (z_M ad ca o.2) A s args o.1) (F0 m 71 ls [])) (x1 : Int64) (x3 : Int32) (x4 : Int32) (x8 : Int32) (x9 : Int32) (x10 : Int32) (x11 : Int64) (x14 : Int32) (h : k_Mo_find_209 ih71 x1 x3 x4 x8 x9 x10 x11 x14 q = some o) : ∀ (H : Heap) (locs : List Loc) (ls : Array Slot), z_wd D (z_M ad ca q) A s H locs → lv_has ls 15 [(0, .ref (ad 0)), (1, .long x1), (3, .int x3), (4, .int x4), (8, .int x8), (9, .int x9), (10, .int x10), (11, .long x11), (14, .int x14)] → W p l e (z_rm 2 47) s m args below meth c H locs 0 0 (z_ql below D (z_Mt ca) (z_M ad ca o.2) A s args o.1) (F0 m 209 ls []) := by
  obtain ⟨hx, hb, hr, hlk, hml, hown, hts, hK, hA⟩ := id C0
  intro H locs ls hw hl
  refine lv_iconst (v := (0 : Int32)) hx hb d_Mo_find_209 (by decide) ?_
  exact w_Mo_find_210 o C0 q ih71 hi71 x1 x3 x4 x8 x9 x10 x11 x14 (0 : Int32) h H locs ls hw (lv_sub hl [0, 1, 2, 3, 4, 5, 6, 7, 8] rfl)
set_option maxHeartbeats 4000000 in
set_option maxRecDepth 100000 in
theorem w_Mo_find_189 {p : Program} {l : Launch} {e : Env} {s : State} {m : MethodId} {args : Array Value} {below : List Frame} {meth : Method} {c : Code} {D : va_G} {A : Nat → Prop} {ad : Nat → Nat} {ca : Nat → ClassId} (o : (Int64 × z_Sg)) (C0 : z_cx z_RMo b_Mo_find 15 (some .long) D (z_Mt ca) A p s m args meth c) (q : z_Sg) (ih71 : Int64 × Int32 × Int32 × Int64 × Int32 × Int32 × Int32 × Int32 × Int64 × Int32 × z_Sg → Option (Int64 × z_Sg)) (hi71 : ∀ a : Int64 × Int32 × Int32 × Int64 × Int32 × Int32 × Int32 × Int32 × Int64 × Int32 × z_Sg, ih71 a = some o → ∀ (H : Heap) (locs : List Loc) (ls : Array Slot), z_wd D (z_M ad ca a.2.2.2.2.2.2.2.2.2.2) A s H locs → lv_has ls 15 [(0, .ref (ad 0)), (1, .long a.1), (3, .int a.2.1), (4, .int a.2.2.1), (5, .long a.2.2.2.1), (7, .int a.2.2.2.2.1), (8, .int a.2.2.2.2.2.1), (9, .int a.2.2.2.2.2.2.1), (10, .int a.2.2.2.2.2.2.2.1), (11, .long a.2.2.2.2.2.2.2.2.1), (13, .int a.2.2.2.2.2.2.2.2.2.1)] → W p l e (z_rm 2 47) s m args below meth c H locs 0 0 (z_ql below D (z_Mt ca) (z_M ad ca o.2) A s args o.1) (F0 m 71 ls [])) (x1 : Int64) (x3 : Int32) (x4 : Int32) (x7 : Int32) (x8 : Int32) (x9 : Int32) (x10 : Int32) (x11 : Int64) (x14 : Int32) (h : k_Mo_find_189 ih71 x1 x3 x4 x7 x8 x9 x10 x11 x14 q = some o) : ∀ (H : Heap) (locs : List Loc) (ls : Array Slot), z_wd D (z_M ad ca q) A s H locs → lv_has ls 15 [(0, .ref (ad 0)), (1, .long x1), (3, .int x3), (4, .int x4), (7, .int x7), (8, .int x8), (9, .int x9), (10, .int x10), (11, .long x11), (14, .int x14)] → W p l e (z_rm 2 47) s m args below meth c H locs 0 0 (z_ql below D (z_Mt ca) (z_M ad ca o.2) A s args o.1) (F0 m 189 ls []) := by
  obtain ⟨hx, hb, hr, hlk, hml, hown, hts, hK, hA⟩ := id C0
  intro H locs ls hw hl
  refine lv_iload hx hb d_Mo_find_189 (lv_at hl 4 rfl) ?_
  refine lv_if_eq (tgt := 209) hx hb d_Mo_find_191 (by decide) (fun c26 => ?_) (fun c26 => ?_)
  · have h := ok_t h c26
    exact w_Mo_find_209 o C0 q ih71 hi71 x1 x3 x4 x8 x9 x10 x11 x14 h H locs ls hw (lv_sub hl [0, 1, 2, 3, 5, 6, 7, 8, 9] rfl)
  · have h := ok_f h c26
    refine lv_lload hx hb d_Mo_find_194 (lv_at hl 8 rfl) ?_
    refine lv_ldc2 (own := z_RMo) hx hb hown (hts _ kl_Mo_73) d_Mo_find_196 ?_
    refine lv_land hx hb d_Mo_find_199 ?_
    refine lv_lconst (v := (0 : Int64)) hx hb d_Mo_find_200 (by decide) ?_
    refine W.lcmp hx hb d_Mo_find_201 ?_
    refine lv_if_eq (tgt := 209) hx hb d_Mo_find_202 (by decide) (fun c37 => ?_) (fun c37 => ?_)
    · have h := ok_t h ((lg_cmp_eq _ _).mp c37)
      exact w_Mo_find_209 o C0 q ih71 hi71 x1 x3 x4 x8 x9 x10 x11 x14 h H locs ls hw (lv_sub hl [0, 1, 2, 3, 5, 6, 7, 8, 9] rfl)
    · have h := ok_f h (fun z => c37 ((lg_cmp_eq _ _).mpr z))
      refine lv_iconst (v := (1 : Int32)) hx hb d_Mo_find_205 (by decide) ?_
      refine lv_goto (tgt := 210) hx hb d_Mo_find_206 (by decide) ?_
      exact w_Mo_find_210 o C0 q ih71 hi71 x1 x3 x4 x8 x9 x10 x11 x14 (1 : Int32) h H locs ls hw (lv_sub hl [0, 1, 2, 3, 5, 6, 7, 8, 9] rfl)
set_option maxHeartbeats 4000000 in
set_option maxRecDepth 100000 in
theorem w_Mo_find_185 {p : Program} {l : Launch} {e : Env} {s : State} {m : MethodId} {args : Array Value} {below : List Frame} {meth : Method} {c : Code} {D : va_G} {A : Nat → Prop} {ad : Nat → Nat} {ca : Nat → ClassId} (o : (Int64 × z_Sg)) (C0 : z_cx z_RMo b_Mo_find 15 (some .long) D (z_Mt ca) A p s m args meth c) (q : z_Sg) (h : k_Mo_find_185 q = some o) : ∀ (H : Heap) (locs : List Loc) (ls : Array Slot), z_wd D (z_M ad ca q) A s H locs → lv_has ls 15 [] → W p l e (z_rm 2 47) s m args below meth c H locs 0 0 (z_ql below D (z_Mt ca) (z_M ad ca o.2) A s args o.1) (F0 m 185 ls []) := by
  obtain ⟨hx, hb, hr, hlk, hml, hown, hts, hK, hA⟩ := id C0
  intro H locs ls hw hl
  refine lv_ldc2 (own := z_RMo) hx hb hown (hts _ kl_Mo_71) d_Mo_find_185 ?_
  have ho := Option.some.inj h
  subst ho
  exact z_rtl C0 hw d_Mo_find_188
set_option maxHeartbeats 4000000 in
set_option maxRecDepth 100000 in
theorem w_Mo_find_130 {p : Program} {l : Launch} {e : Env} {s : State} {m : MethodId} {args : Array Value} {below : List Frame} {meth : Method} {c : Code} {D : va_G} {A : Nat → Prop} {ad : Nat → Nat} {ca : Nat → ClassId} (o : (Int64 × z_Sg)) (C0 : z_cx z_RMo b_Mo_find 15 (some .long) D (z_Mt ca) A p s m args meth c) (q : z_Sg) (ih71 : Int64 × Int32 × Int32 × Int64 × Int32 × Int32 × Int32 × Int32 × Int64 × Int32 × z_Sg → Option (Int64 × z_Sg)) (hi71 : ∀ a : Int64 × Int32 × Int32 × Int64 × Int32 × Int32 × Int32 × Int32 × Int64 × Int32 × z_Sg, ih71 a = some o → ∀ (H : Heap) (locs : List Loc) (ls : Array Slot), z_wd D (z_M ad ca a.2.2.2.2.2.2.2.2.2.2) A s H locs → lv_has ls 15 [(0, .ref (ad 0)), (1, .long a.1), (3, .int a.2.1), (4, .int a.2.2.1), (5, .long a.2.2.2.1), (7, .int a.2.2.2.2.1), (8, .int a.2.2.2.2.2.1), (9, .int a.2.2.2.2.2.2.1), (10, .int a.2.2.2.2.2.2.2.1), (11, .long a.2.2.2.2.2.2.2.2.1), (13, .int a.2.2.2.2.2.2.2.2.2.1)] → W p l e (z_rm 2 47) s m args below meth c H locs 0 0 (z_ql below D (z_Mt ca) (z_M ad ca o.2) A s args o.1) (F0 m 71 ls [])) (x1 : Int64) (x3 : Int32) (x4 : Int32) (x7 : Int32) (x8 : Int32) (x9 : Int32) (x10 : Int32) (x11 : Int64) (t0 : Int32) (h : k_Mo_find_130 ih71 x1 x3 x4 x7 x8 x9 x10 x11 t0 q = some o) : ∀ (H : Heap) (locs : List Loc) (ls : Array Slot), z_wd D (z_M ad ca q) A s H locs → lv_has ls 15 [(0, .ref (ad 0)), (1, .long x1), (3, .int x3), (4, .int x4), (7, .int x7), (8, .int x8), (9, .int x9), (10, .int x10), (11, .long x11)] → W p l e (z_rm 2 47) s m args below meth c H locs 0 0 (z_ql below D (z_Mt ca) (z_M ad ca o.2) A s args o.1) (F0 m 130 ls [.int t0]) := by
  obtain ⟨hx, hb, hr, hlk, hml, hown, hts, hK, hA⟩ := id C0
  intro H locs ls hw hl
  refine lv_istore (lv' := [(14, .int t0), (0, .ref (ad 0)), (1, .long x1), (3, .int x3), (4, .int x4), (7, .int x7), (8, .int x8), (9, .int x9), (10, .int x10), (11, .long x11)]) hx hb d_Mo_find_130 hl (by decide) rfl (fun ls hl => ?_)
  refine lv_aload_n hx hb d_Mo_find_132 rfl (lv_at hl 1 rfl) ?_
  refine lv_iload hx hb d_Mo_find_133 (lv_at hl 4 rfl) ?_
  refine pfM_0_lookCode C0 hw fl_Mo_68 d_Mo_find_135 (fun H locs hw => ?_)
  obtain ⟨q22, eq22, h⟩ := ok_n h
  rw [← eq22] at hw
  refine lv_lload hx hb d_Mo_find_138 (lv_at hl 9 rfl) ?_
  refine lv_lconst (v := (1 : Int64)) hx hb d_Mo_find_140 (by decide) ?_
  refine lv_land hx hb d_Mo_find_141 ?_
  refine lv_lconst (v := (0 : Int64)) hx hb d_Mo_find_142 (by decide) ?_
  refine W.lcmp hx hb d_Mo_find_143 ?_
  refine lv_if_ne (tgt := 151) hx hb d_Mo_find_144 (by decide) (fun c23 => ?_) (fun c23 => ?_)
  · have h := ok_f h (fun z => c23 ((lg_cmp_eq _ _).mpr z))
    refine lv_aload_n hx hb d_Mo_find_151 rfl (lv_at hl 1 rfl) ?_
    refine lv_iload hx hb d_Mo_find_152 (lv_at hl 4 rfl) ?_
    refine lv_bipush (v := (9 : Int32)) hx hb d_Mo_find_154 (by decide) ?_
    refine lv_iadd hx hb d_Mo_find_156 ?_
    refine pfM_0_lookCode C0 hw fl_Mo_68 d_Mo_find_157 (fun H locs hw => ?_)
    obtain ⟨q24, eq24, h⟩ := ok_n h
    rw [← eq24] at hw
    refine lv_iload hx hb d_Mo_find_160 (lv_at hl 0 rfl) ?_
    refine lv_if_eq (tgt := 189) hx hb d_Mo_find_162 (by decide) (fun c25 => ?_) (fun c25 => ?_)
    · have h := ok_t h c25
      exact w_Mo_find_189 o C0 q24 ih71 hi71 x1 x3 x4 x7 x8 x9 x10 x11 t0 h H locs ls hw (lv_sub hl [1, 2, 3, 4, 5, 6, 7, 8, 9, 0] rfl)
    · have h := ok_f h c25
      refine lv_iload hx hb d_Mo_find_165 (lv_at hl 8 rfl) ?_
      refine lv_iconst (v := (1 : Int32)) hx hb d_Mo_find_167 (by decide) ?_
      refine lv_icmp_gt (tgt := 185) hx hb d_Mo_find_168 (by decide) (fun c38 => ?_) (fun c38 => ?_)
      · have h := ok_t h c38
        exact w_Mo_find_185 o C0 q24 h H locs ls hw (lv_sub hl [] rfl)
      · have h := ok_f h c38
        refine lv_lload hx hb d_Mo_find_171 (lv_at hl 9 rfl) ?_
        refine lv_bipush (v := (13 : Int32)) hx hb d_Mo_find_173 (by decide) ?_
        refine lv_bipush (v := (20 : Int32)) hx hb d_Mo_find_175 (by decide) ?_
        obtain ⟨r39, er39, h⟩ := ok_b h
        refine z_sl (rest := []) C0 hw (c_Mo_bits x11 (13 : Int32) (20 : Int32) q24 r39 er39) mw_Mo_bits ml_Mo_56 ⟨Nat.le_of_ble_eq_true rfl, Nat.le_of_ble_eq_true rfl⟩ ⟨Nat.le_refl 0, Nat.le_refl 0⟩ rfl hl.1 rfl (Nat.le_of_ble_eq_true rfl) d_Mo_find_177 (fun H locs hw => ?_)
        refine lv_lconst (v := (0 : Int64)) hx hb d_Mo_find_180 (by decide) ?_
        refine W.lcmp hx hb d_Mo_find_181 ?_
        refine lv_if_eq (tgt := 189) hx hb d_Mo_find_182 (by decide) (fun c40 => ?_) (fun c40 => ?_)
        · have h := ok_t h ((lg_cmp_eq _ _).mp c40)
          exact w_Mo_find_189 o C0 q24 ih71 hi71 x1 x3 x4 x7 x8 x9 x10 x11 t0 h H locs ls hw (lv_sub hl [1, 2, 3, 4, 5, 6, 7, 8, 9, 0] rfl)
        · have h := ok_f h (fun z => c40 ((lg_cmp_eq _ _).mpr z))
          exact w_Mo_find_185 o C0 q24 h H locs ls hw (lv_sub hl [] rfl)
  · have h := ok_t h ((lg_cmp_eq _ _).mp c23)
    refine lv_ldc2 (own := z_RMo) hx hb hown (hts _ kl_Mo_71) d_Mo_find_147 ?_
    have ho := Option.some.inj h
    subst ho
    exact z_rtl C0 hw d_Mo_find_150
set_option maxHeartbeats 4000000 in
set_option maxRecDepth 100000 in
theorem w_Mo_find_129 {p : Program} {l : Launch} {e : Env} {s : State} {m : MethodId} {args : Array Value} {below : List Frame} {meth : Method} {c : Code} {D : va_G} {A : Nat → Prop} {ad : Nat → Nat} {ca : Nat → ClassId} (o : (Int64 × z_Sg)) (C0 : z_cx z_RMo b_Mo_find 15 (some .long) D (z_Mt ca) A p s m args meth c) (q : z_Sg) (ih71 : Int64 × Int32 × Int32 × Int64 × Int32 × Int32 × Int32 × Int32 × Int64 × Int32 × z_Sg → Option (Int64 × z_Sg)) (hi71 : ∀ a : Int64 × Int32 × Int32 × Int64 × Int32 × Int32 × Int32 × Int32 × Int64 × Int32 × z_Sg, ih71 a = some o → ∀ (H : Heap) (locs : List Loc) (ls : Array Slot), z_wd D (z_M ad ca a.2.2.2.2.2.2.2.2.2.2) A s H locs → lv_has ls 15 [(0, .ref (ad 0)), (1, .long a.1), (3, .int a.2.1), (4, .int a.2.2.1), (5, .long a.2.2.2.1), (7, .int a.2.2.2.2.1), (8, .int a.2.2.2.2.2.1), (9, .int a.2.2.2.2.2.2.1), (10, .int a.2.2.2.2.2.2.2.1), (11, .long a.2.2.2.2.2.2.2.2.1), (13, .int a.2.2.2.2.2.2.2.2.2.1)] → W p l e (z_rm 2 47) s m args below meth c H locs 0 0 (z_ql below D (z_Mt ca) (z_M ad ca o.2) A s args o.1) (F0 m 71 ls [])) (x1 : Int64) (x3 : Int32) (x4 : Int32) (x7 : Int32) (x8 : Int32) (x9 : Int32) (x10 : Int32) (x11 : Int64) (h : k_Mo_find_129 ih71 x1 x3 x4 x7 x8 x9 x10 x11 q = some o) : ∀ (H : Heap) (locs : List Loc) (ls : Array Slot), z_wd D (z_M ad ca q) A s H locs → lv_has ls 15 [(0, .ref (ad 0)), (1, .long x1), (3, .int x3), (4, .int x4), (7, .int x7), (8, .int x8), (9, .int x9), (10, .int x10), (11, .long x11)] → W p l e (z_rm 2 47) s m args below meth c H locs 0 0 (z_ql below D (z_Mt ca) (z_M ad ca o.2) A s args o.1) (F0 m 129 ls []) := by
  obtain ⟨hx, hb, hr, hlk, hml, hown, hts, hK, hA⟩ := id C0
  intro H locs ls hw hl
  refine lv_iconst (v := (0 : Int32)) hx hb d_Mo_find_129 (by decide) ?_
  exact w_Mo_find_130 o C0 q ih71 hi71 x1 x3 x4 x7 x8 x9 x10 x11 (0 : Int32) h H locs ls hw (lv_sub hl [0, 1, 2, 3, 4, 5, 6, 7, 8] rfl)
set_option maxHeartbeats 4000000 in
set_option maxRecDepth 100000 in
theorem wb_Mo_find_71 {p : Program} {l : Launch} {e : Env} {s : State} {m : MethodId} {args : Array Value} {below : List Frame} {meth : Method} {c : Code} {D : va_G} {A : Nat → Prop} {ad : Nat → Nat} {ca : Nat → ClassId} (o : (Int64 × z_Sg)) (C0 : z_cx z_RMo b_Mo_find 15 (some .long) D (z_Mt ca) A p s m args meth c) (q : z_Sg) (ih71 : Int64 × Int32 × Int32 × Int64 × Int32 × Int32 × Int32 × Int32 × Int64 × Int32 × z_Sg → Option (Int64 × z_Sg)) (hi71 : ∀ a : Int64 × Int32 × Int32 × Int64 × Int32 × Int32 × Int32 × Int32 × Int64 × Int32 × z_Sg, ih71 a = some o → ∀ (H : Heap) (locs : List Loc) (ls : Array Slot), z_wd D (z_M ad ca a.2.2.2.2.2.2.2.2.2.2) A s H locs → lv_has ls 15 [(0, .ref (ad 0)), (1, .long a.1), (3, .int a.2.1), (4, .int a.2.2.1), (5, .long a.2.2.2.1), (7, .int a.2.2.2.2.1), (8, .int a.2.2.2.2.2.1), (9, .int a.2.2.2.2.2.2.1), (10, .int a.2.2.2.2.2.2.2.1), (11, .long a.2.2.2.2.2.2.2.2.1), (13, .int a.2.2.2.2.2.2.2.2.2.1)] → W p l e (z_rm 2 47) s m args below meth c H locs 0 0 (z_ql below D (z_Mt ca) (z_M ad ca o.2) A s args o.1) (F0 m 71 ls [])) (x1 : Int64) (x3 : Int32) (x4 : Int32) (x5 : Int64) (x7 : Int32) (x8 : Int32) (x9 : Int32) (x10 : Int32) (x11 : Int64) (x13 : Int32) (h : kb_Mo_find_71 ih71 x1 x3 x4 x5 x7 x8 x9 x10 x11 x13 q = some o) : ∀ (H : Heap) (locs : List Loc) (ls : Array Slot), z_wd D (z_M ad ca q) A s H locs → lv_has ls 15 [(0, .ref (ad 0)), (1, .long x1), (3, .int x3), (4, .int x4), (5, .long x5), (7, .int x7), (8, .int x8), (9, .int x9), (10, .int x10), (11, .long x11), (13, .int x13)] → W p l e (z_rm 2 47) s m args below meth c H locs 0 0 (z_ql below D (z_Mt ca) (z_M ad ca o.2) A s args o.1) (F0 m 71 ls []) := by
  obtain ⟨hx, hb, hr, hlk, hml, hown, hts, hK, hA⟩ := id C0
  intro H locs ls hw hl
  refine lv_iload hx hb d_Mo_find_71 (lv_at hl 10 rfl) ?_
  refine lv_if_ne (tgt := 296) hx hb d_Mo_find_73 (by decide) (fun c7 => ?_) (fun c7 => ?_)
  · have h := ok_f h c7
    refine lv_aload_n hx hb d_Mo_find_296 rfl (lv_at hl 0 rfl) ?_
    refine lv_iload hx hb d_Mo_find_297 (lv_at hl 3 rfl) ?_
    refine lv_iconst (v := (1 : Int32)) hx hb d_Mo_find_299 (by decide) ?_
    refine lv_iadd hx hb d_Mo_find_300 ?_
    refine pfM_0_lookCode C0 hw fl_Mo_68 d_Mo_find_301 (fun H locs hw => ?_)
    obtain ⟨q8, eq8, h⟩ := ok_n h
    rw [← eq8] at hw
    refine lv_iload_n hx hb d_Mo_find_304 rfl (lv_at hl 2 rfl) ?_
    refine lv_iconst (v := (1 : Int32)) hx hb d_Mo_find_305 (by decide) ?_
    refine lv_icmp_ne (tgt := 314) hx hb d_Mo_find_306 (by decide) (fun c9 => ?_) (fun c9 => ?_)
    · have h := ok_f h c9
      exact w_Mo_find_314 o C0 q8 x1 x3 x5 x8 x9 x10 x11 h H locs ls hw (lv_sub hl [0, 1, 2, 4, 6, 7, 8, 9] rfl)
    · have h := ok_t h c9
      refine lv_iload hx hb d_Mo_find_309 (lv_at hl 5 rfl) ?_
      refine lv_if_eq (tgt := 336) hx hb d_Mo_find_311 (by decide) (fun c18 => ?_) (fun c18 => ?_)
      · have h := ok_t h c18
        exact w_Mo_find_336 o C0 q8 h H locs ls hw (lv_sub hl [] rfl)
      · have h := ok_f h c18
        exact w_Mo_find_314 o C0 q8 x1 x3 x5 x8 x9 x10 x11 h H locs ls hw (lv_sub hl [0, 1, 2, 4, 6, 7, 8, 9] rfl)
  · have h := ok_t h c7
    refine lv_aload_n hx hb d_Mo_find_76 rfl (lv_at hl 0 rfl) ?_
    refine lv_lload hx hb d_Mo_find_77 (lv_at hl 4 rfl) ?_
    refine lv_ldc2 (own := z_RMo) hx hb hown (hts _ kl_Mo_60) d_Mo_find_79 ?_
    refine lv_lload_n hx hb d_Mo_find_82 rfl (lv_at hl 1 rfl) ?_
    refine lv_bipush (v := (12 : Int32)) hx hb d_Mo_find_83 (by decide) ?_
    refine lv_bipush (v := (9 : Int32)) hx hb d_Mo_find_85 (by decide) ?_
    refine lv_iload hx hb d_Mo_find_87 (lv_at hl 8 rfl) ?_
    refine lv_imul hx hb d_Mo_find_89 ?_
    refine lv_iadd hx hb d_Mo_find_90 ?_
    refine lv_bipush (v := (20 : Int32)) hx hb d_Mo_find_91 (by decide) ?_
    refine lv_bipush (v := (9 : Int32)) hx hb d_Mo_find_93 (by decide) ?_
    refine lv_iload hx hb d_Mo_find_95 (lv_at hl 8 rfl) ?_
    refine lv_imul hx hb d_Mo_find_97 ?_
    refine lv_iadd hx hb d_Mo_find_98 ?_
    obtain ⟨r19, er19, h⟩ := ok_b h
    refine z_sl (rest := [.long (8 : Int64), .long x5, .ref (ad 0)]) C0 hw (c_Mo_bits x1 ((12 : Int32) + ((9 : Int32) * x10)) ((20 : Int32) + ((9 : Int32) * x10)) q r19 er19) mw_Mo_bits ml_Mo_56 ⟨Nat.le_of_ble_eq_true rfl, Nat.le_of_ble_eq_true rfl⟩ ⟨Nat.le_refl 0, Nat.le_refl 0⟩ rfl hl.1 rfl (Nat.le_of_ble_eq_true rfl) d_Mo_find_99 (fun H locs hw => ?_)
    refine lv_lmul hx hb d_Mo_find_102 ?_
    refine lv_ladd hx hb d_Mo_find_103 ?_
    obtain ⟨r20, er20, h⟩ := ok_b h
    refine z_vl (rest := []) C0 hw (c_Mo_eight (x5 + ((8 : Int64) * r19)) q r20 er20) mw_Mo_eight ml_Mo_62 0 rfl ⟨Nat.le_of_ble_eq_true rfl, Nat.le_of_ble_eq_true rfl⟩ ⟨Nat.le_refl 0, Nat.le_refl 0⟩ rfl hl.1 rfl (Nat.le_of_ble_eq_true rfl) d_Mo_find_104 (fun H locs hw => ?_)
    refine lv_lstore (lv' := [(11, .long r20), (0, .ref (ad 0)), (1, .long x1), (3, .int x3), (4, .int x4), (5, .long x5), (7, .int x7), (8, .int x8), (9, .int x9), (10, .int x10), (13, .int x13)]) hx hb d_Mo_find_107 hl (by decide) rfl (fun ls hl => ?_)
    refine lv_iload hx hb d_Mo_find_109 (lv_at hl 9 rfl) ?_
    refine lv_if_le (tgt := 129) hx hb d_Mo_find_111 (by decide) (fun c21 => ?_) (fun c21 => ?_)
    · have h := ok_t h c21
      exact w_Mo_find_129 o C0 q ih71 hi71 x1 x3 x4 x7 x8 x9 x10 r20 h H locs ls hw (lv_sub hl [1, 2, 3, 4, 6, 7, 8, 9, 0] rfl)
    · have h := ok_f h c21
      refine lv_lload hx hb d_Mo_find_114 (lv_at hl 0 rfl) ?_
      refine lv_ldc2 (own := z_RMo) hx hb hown (hts _ kl_Mo_66) d_Mo_find_116 ?_
      refine lv_land hx hb d_Mo_find_119 ?_
      refine lv_lconst (v := (0 : Int64)) hx hb d_Mo_find_120 (by decide) ?_
      refine W.lcmp hx hb d_Mo_find_121 ?_
      refine lv_if_eq (tgt := 129) hx hb d_Mo_find_122 (by decide) (fun c41 => ?_) (fun c41 => ?_)
      · have h := ok_t h ((lg_cmp_eq _ _).mp c41)
        exact w_Mo_find_129 o C0 q ih71 hi71 x1 x3 x4 x7 x8 x9 x10 r20 h H locs ls hw (lv_sub hl [1, 2, 3, 4, 6, 7, 8, 9, 0] rfl)
      · have h := ok_f h (fun z => c41 ((lg_cmp_eq _ _).mpr z))
        refine lv_iconst (v := (1 : Int32)) hx hb d_Mo_find_125 (by decide) ?_
        refine lv_goto (tgt := 130) hx hb d_Mo_find_126 (by decide) ?_
        exact w_Mo_find_130 o C0 q ih71 hi71 x1 x3 x4 x7 x8 x9 x10 r20 (1 : Int32) h H locs ls hw (lv_sub hl [1, 2, 3, 4, 6, 7, 8, 9, 0] rfl)
theorem w_Mo_find_71 {p : Program} {l : Launch} {e : Env} {s : State} {m : MethodId} {args : Array Value} {below : List Frame} {meth : Method} {c : Code} {D : va_G} {A : Nat → Prop} {ad : Nat → Nat} {ca : Nat → ClassId} (o : (Int64 × z_Sg)) (C0 : z_cx z_RMo b_Mo_find 15 (some .long) D (z_Mt ca) A p s m args meth c) (q : z_Sg) (x1 : Int64) (x3 : Int32) (x4 : Int32) (x5 : Int64) (x7 : Int32) (x8 : Int32) (x9 : Int32) (x10 : Int32) (x11 : Int64) (x13 : Int32) (h : k_Mo_find_71 x1 x3 x4 x5 x7 x8 x9 x10 x11 x13 q = some o) : ∀ (H : Heap) (locs : List Loc) (ls : Array Slot), z_wd D (z_M ad ca q) A s H locs → lv_has ls 15 [(0, .ref (ad 0)), (1, .long x1), (3, .int x3), (4, .int x4), (5, .long x5), (7, .int x7), (8, .int x8), (9, .int x9), (10, .int x10), (11, .long x11), (13, .int x13)] → W p l e (z_rm 2 47) s m args below meth c H locs 0 0 (z_ql below D (z_Mt ca) (z_M ad ca o.2) A s args o.1) (F0 m 71 ls []) := by
  have key : ∀ (n : Nat) (a : Int64 × Int32 × Int32 × Int64 × Int32 × Int32 × Int32 × Int32 × Int64 × Int32 × z_Sg), z_lo (fun ih71 a => kb_Mo_find_71 ih71 a.1 a.2.1 a.2.2.1 a.2.2.2.1 a.2.2.2.2.1 a.2.2.2.2.2.1 a.2.2.2.2.2.2.1 a.2.2.2.2.2.2.2.1 a.2.2.2.2.2.2.2.2.1 a.2.2.2.2.2.2.2.2.2.1 a.2.2.2.2.2.2.2.2.2.2) n a = some o → ∀ (H : Heap) (locs : List Loc) (ls : Array Slot), z_wd D (z_M ad ca a.2.2.2.2.2.2.2.2.2.2) A s H locs → lv_has ls 15 [(0, .ref (ad 0)), (1, .long a.1), (3, .int a.2.1), (4, .int a.2.2.1), (5, .long a.2.2.2.1), (7, .int a.2.2.2.2.1), (8, .int a.2.2.2.2.2.1), (9, .int a.2.2.2.2.2.2.1), (10, .int a.2.2.2.2.2.2.2.1), (11, .long a.2.2.2.2.2.2.2.2.1), (13, .int a.2.2.2.2.2.2.2.2.2.1)] → W p l e (z_rm 2 47) s m args below meth c H locs 0 0 (z_ql below D (z_Mt ca) (z_M ad ca o.2) A s args o.1) (F0 m 71 ls []) := by
    intro n
    induction n with
    | zero => intro a h; cases h
    | succ n ih => exact fun a h => wb_Mo_find_71 o C0 a.2.2.2.2.2.2.2.2.2.2 (z_lo (fun ih71 a => kb_Mo_find_71 ih71 a.1 a.2.1 a.2.2.1 a.2.2.2.1 a.2.2.2.2.1 a.2.2.2.2.2.1 a.2.2.2.2.2.2.1 a.2.2.2.2.2.2.2.1 a.2.2.2.2.2.2.2.2.1 a.2.2.2.2.2.2.2.2.2.1 a.2.2.2.2.2.2.2.2.2.2) n) ih a.1 a.2.1 a.2.2.1 a.2.2.2.1 a.2.2.2.2.1 a.2.2.2.2.2.1 a.2.2.2.2.2.2.1 a.2.2.2.2.2.2.2.1 a.2.2.2.2.2.2.2.2.1 a.2.2.2.2.2.2.2.2.2.1 h
  exact key 2000 (x1, x3, x4, x5, x7, x8, x9, x10, x11, x13, q) h
set_option maxHeartbeats 4000000 in
set_option maxRecDepth 100000 in
theorem w_Mo_find_34 {p : Program} {l : Launch} {e : Env} {s : State} {m : MethodId} {args : Array Value} {below : List Frame} {meth : Method} {c : Code} {D : va_G} {A : Nat → Prop} {ad : Nat → Nat} {ca : Nat → ClassId} (o : (Int64 × z_Sg)) (C0 : z_cx z_RMo b_Mo_find 15 (some .long) D (z_Mt ca) A p s m args meth c) (q : z_Sg) (x1 : Int64) (x3 : Int32) (t0 : Int32) (t1 : Int32) (h : k_Mo_find_34 x1 x3 t0 t1 q = some o) : ∀ (H : Heap) (locs : List Loc) (ls : Array Slot), z_wd D (z_M ad ca q) A s H locs → lv_has ls 15 [(0, .ref (ad 0)), (1, .long x1), (3, .int x3)] → W p l e (z_rm 2 47) s m args below meth c H locs 0 0 (z_ql below D (z_Mt ca) (z_M ad ca o.2) A s args o.1) (F0 m 34 ls [.int t1, .int t0]) := by
  obtain ⟨hx, hb, hr, hlk, hml, hown, hts, hK, hA⟩ := id C0
  intro H locs ls hw hl
  refine lv_iadd hx hb d_Mo_find_34 ?_
  obtain ⟨n4, en4, h⟩ := ok_n h
  refine z_ti en4 ?_
  refine lv_istore (lv' := [(4, .int n4), (0, .ref (ad 0)), (1, .long x1), (3, .int x3)]) hx hb d_Mo_find_35 hl (by decide) rfl (fun ls hl => ?_)
  refine lv_aload_n hx hb d_Mo_find_37 rfl (lv_at hl 1 rfl) ?_
  refine gfM_0_table C0 hw fl_Mo_52 d_Mo_find_38 ?_
  refine lv_bipush (v := (12 : Int32)) hx hb d_Mo_find_41 (by decide) ?_
  refine lv_bipush (v := (51 : Int32)) hx hb d_Mo_find_43 (by decide) ?_
  obtain ⟨r5, er5, h⟩ := ok_b h
  refine z_sl (rest := []) C0 hw (c_Mo_bits (z_gL q 1) (12 : Int32) (51 : Int32) q r5 er5) mw_Mo_bits ml_Mo_56 ⟨Nat.le_of_ble_eq_true rfl, Nat.le_of_ble_eq_true rfl⟩ ⟨Nat.le_refl 0, Nat.le_refl 0⟩ rfl hl.1 rfl (Nat.le_of_ble_eq_true rfl) d_Mo_find_45 (fun H locs hw => ?_)
  refine lv_bipush (v := (12 : Int32)) hx hb d_Mo_find_48 (by decide) ?_
  refine lv_lshl (v := (z_lshl r5 (12 : Int32))) hx hb d_Mo_find_50 rfl ?_
  obtain ⟨n6, en6, h⟩ := ok_n h
  refine z_tl en6 ?_
  refine lv_lstore (lv' := [(5, .long n6), (4, .int n4), (0, .ref (ad 0)), (1, .long x1), (3, .int x3)]) hx hb d_Mo_find_51 hl (by decide) rfl (fun ls hl => ?_)
  refine lv_iconst (v := (1 : Int32)) hx hb d_Mo_find_53 (by decide) ?_
  refine lv_istore (lv' := [(7, .int (1 : Int32)), (5, .long n6), (4, .int n4), (0, .ref (ad 0)), (1, .long x1), (3, .int x3)]) hx hb d_Mo_find_54 hl (by decide) rfl (fun ls hl => ?_)
  refine lv_iconst (v := (1 : Int32)) hx hb d_Mo_find_56 (by decide) ?_
  refine lv_istore (lv' := [(8, .int (1 : Int32)), (7, .int (1 : Int32)), (5, .long n6), (4, .int n4), (0, .ref (ad 0)), (1, .long x1), (3, .int x3)]) hx hb d_Mo_find_57 hl (by decide) rfl (fun ls hl => ?_)
  refine lv_iconst (v := (1 : Int32)) hx hb d_Mo_find_59 (by decide) ?_
  refine lv_istore (lv' := [(9, .int (1 : Int32)), (8, .int (1 : Int32)), (7, .int (1 : Int32)), (5, .long n6), (4, .int n4), (0, .ref (ad 0)), (1, .long x1), (3, .int x3)]) hx hb d_Mo_find_60 hl (by decide) rfl (fun ls hl => ?_)
  refine lv_iconst (v := (3 : Int32)) hx hb d_Mo_find_62 (by decide) ?_
  refine lv_istore (lv' := [(10, .int (3 : Int32)), (9, .int (1 : Int32)), (8, .int (1 : Int32)), (7, .int (1 : Int32)), (5, .long n6), (4, .int n4), (0, .ref (ad 0)), (1, .long x1), (3, .int x3)]) hx hb d_Mo_find_63 hl (by decide) rfl (fun ls hl => ?_)
  refine lv_lconst (v := (0 : Int64)) hx hb d_Mo_find_65 (by decide) ?_
  refine lv_lstore (lv' := [(11, .long (0 : Int64)), (10, .int (3 : Int32)), (9, .int (1 : Int32)), (8, .int (1 : Int32)), (7, .int (1 : Int32)), (5, .long n6), (4, .int n4), (0, .ref (ad 0)), (1, .long x1), (3, .int x3)]) hx hb d_Mo_find_66 hl (by decide) rfl (fun ls hl => ?_)
  refine lv_iconst (v := (0 : Int32)) hx hb d_Mo_find_68 (by decide) ?_
  refine lv_istore (lv' := [(13, .int (0 : Int32)), (11, .long (0 : Int64)), (10, .int (3 : Int32)), (9, .int (1 : Int32)), (8, .int (1 : Int32)), (7, .int (1 : Int32)), (5, .long n6), (4, .int n4), (0, .ref (ad 0)), (1, .long x1), (3, .int x3)]) hx hb d_Mo_find_69 hl (by decide) rfl (fun ls hl => ?_)
  exact w_Mo_find_71 o C0 q x1 x3 n4 n6 (1 : Int32) (1 : Int32) (1 : Int32) (3 : Int32) (0 : Int64) (0 : Int32) h H locs ls hw (lv_sub hl [8, 9, 10, 7, 6, 5, 4, 3, 2, 1, 0] rfl)
set_option maxHeartbeats 4000000 in
set_option maxRecDepth 100000 in
theorem w_Mo_find_22 {p : Program} {l : Launch} {e : Env} {s : State} {m : MethodId} {args : Array Value} {below : List Frame} {meth : Method} {c : Code} {D : va_G} {A : Nat → Prop} {ad : Nat → Nat} {ca : Nat → ClassId} (o : (Int64 × z_Sg)) (C0 : z_cx z_RMo b_Mo_find 15 (some .long) D (z_Mt ca) A p s m args meth c) (q : z_Sg) (x1 : Int64) (x3 : Int32) (t0 : Int32) (t1 : Int32) (h : k_Mo_find_22 x1 x3 t0 t1 q = some o) : ∀ (H : Heap) (locs : List Loc) (ls : Array Slot), z_wd D (z_M ad ca q) A s H locs → lv_has ls 15 [(0, .ref (ad 0)), (1, .long x1), (3, .int x3)] → W p l e (z_rm 2 47) s m args below meth c H locs 0 0 (z_ql below D (z_Mt ca) (z_M ad ca o.2) A s args o.1) (F0 m 22 ls [.int t1, .int t0]) := by
  obtain ⟨hx, hb, hr, hlk, hml, hown, hts, hK, hA⟩ := id C0
  intro H locs ls hw hl
  refine lv_iadd hx hb d_Mo_find_22 ?_
  refine lv_iload_n hx hb d_Mo_find_23 rfl (lv_at hl 2 rfl) ?_
  refine lv_iconst (v := (2 : Int32)) hx hb d_Mo_find_24 (by decide) ?_
  refine lv_icmp_ne (tgt := 33) hx hb d_Mo_find_25 (by decide) (fun c3 => ?_) (fun c3 => ?_)
  · have h := ok_f h c3
    refine lv_iconst (v := (0 : Int32)) hx hb d_Mo_find_33 (by decide) ?_
    exact w_Mo_find_34 o C0 q x1 x3 (t0 + t1) (0 : Int32) h H locs ls hw (lv_sub hl [0, 1, 2] rfl)
  · have h := ok_t h c3
    refine lv_bipush (v := (16 : Int32)) hx hb d_Mo_find_28 (by decide) ?_
    refine lv_goto (tgt := 34) hx hb d_Mo_find_30 (by decide) ?_
    exact w_Mo_find_34 o C0 q x1 x3 (t0 + t1) (16 : Int32) h H locs ls hw (lv_sub hl [0, 1, 2] rfl)
set_option maxHeartbeats 4000000 in
set_option maxRecDepth 100000 in
theorem w_Mo_find_10 {p : Program} {l : Launch} {e : Env} {s : State} {m : MethodId} {args : Array Value} {below : List Frame} {meth : Method} {c : Code} {D : va_G} {A : Nat → Prop} {ad : Nat → Nat} {ca : Nat → ClassId} (o : (Int64 × z_Sg)) (C0 : z_cx z_RMo b_Mo_find 15 (some .long) D (z_Mt ca) A p s m args meth c) (q : z_Sg) (x1 : Int64) (x3 : Int32) (t0 : Int32) (h : k_Mo_find_10 x1 x3 t0 q = some o) : ∀ (H : Heap) (locs : List Loc) (ls : Array Slot), z_wd D (z_M ad ca q) A s H locs → lv_has ls 15 [(0, .ref (ad 0)), (1, .long x1), (3, .int x3)] → W p l e (z_rm 2 47) s m args below meth c H locs 0 0 (z_ql below D (z_Mt ca) (z_M ad ca o.2) A s args o.1) (F0 m 10 ls [.int t0]) := by
  obtain ⟨hx, hb, hr, hlk, hml, hown, hts, hK, hA⟩ := id C0
  intro H locs ls hw hl
  refine lv_aload_n hx hb d_Mo_find_10 rfl (lv_at hl 0 rfl) ?_
  refine gfM_0_user C0 hw fl_Mo_48 d_Mo_find_11 ?_
  refine lv_if_eq (tgt := 21) hx hb d_Mo_find_14 (by decide) (fun c2 => ?_) (fun c2 => ?_)
  · have h := ok_t h c2
    refine lv_iconst (v := (0 : Int32)) hx hb d_Mo_find_21 (by decide) ?_
    exact w_Mo_find_22 o C0 q x1 x3 t0 (0 : Int32) h H locs ls hw (lv_sub hl [0, 1, 2] rfl)
  · have h := ok_f h c2
    refine lv_iconst (v := (4 : Int32)) hx hb d_Mo_find_17 (by decide) ?_
    refine lv_goto (tgt := 22) hx hb d_Mo_find_18 (by decide) ?_
    exact w_Mo_find_22 o C0 q x1 x3 t0 (4 : Int32) h H locs ls hw (lv_sub hl [0, 1, 2] rfl)
set_option maxHeartbeats 4000000 in
set_option maxRecDepth 100000 in
theorem c_Mo_find {l : Launch} {D : va_G} {ad : Nat → Nat} {ca : Nat → ClassId} (x1 : Int64) (x3 : Int32) (q : z_Sg) (o : (Int64 × z_Sg)) (h : f_Mo_find x1 x3 q = some o) : z_cl l y_Mo_find b_Mo_find 15 (some .long) 2 47 D (z_Mt ca) (z_M ad ca q) (z_M ad ca o.2) [.ref (ad 0), .long x1, .int x3] o.1 := by
  refine z_cl_of (own := z_RMo) (by decide) rfl ?_
  intro p e s m below meth c A C0 hw
  obtain ⟨hx, hb, hr, hlk, hml, hown, hts, hK, hA⟩ := id C0
  generalize hH : s.heap = H at hw ⊢
  generalize hlo : ([] : List Loc) = locs at hw ⊢
  refine z_entry (lv := [(0, .ref (ad 0)), (1, .long x1), (3, .int x3)]) (Nat.le_of_ble_eq_true rfl) rfl (fun ls hl => ?_)
  unfold f_Mo_find at h
  refine lv_iload_n hx hb d_Mo_find_0 rfl (lv_at hl 2 rfl) ?_
  refine lv_iconst (v := (1 : Int32)) hx hb d_Mo_find_1 (by decide) ?_
  refine lv_icmp_ne (tgt := 9) hx hb d_Mo_find_2 (by decide) (fun c1 => ?_) (fun c1 => ?_)
  · have h := ok_f h c1
    refine lv_iconst (v := (0 : Int32)) hx hb d_Mo_find_9 (by decide) ?_
    exact w_Mo_find_10 o C0 q x1 x3 (0 : Int32) h H locs ls hw (lv_sub hl [0, 1, 2] rfl)
  · have h := ok_t h c1
    refine lv_iconst (v := (2 : Int32)) hx hb d_Mo_find_5 (by decide) ?_
    refine lv_goto (tgt := 10) hx hb d_Mo_find_6 (by decide) ?_
    exact w_Mo_find_10 o C0 q x1 x3 (2 : Int32) h H locs ls hw (lv_sub hl [0, 1, 2] rfl)
def k_Mo_refuse_13 (q : z_Sg) : Option z_Sg :=
  some q
def f_Mo_refuse (x1 : Int32) (q : z_Sg) : Option z_Sg :=
  if (z_gI q 4) = (-1 : Int32) then (z_nm (z_sI q 4 x1) (fun q2 => k_Mo_refuse_13 q2)) else (k_Mo_refuse_13 q)
set_option maxHeartbeats 4000000 in
set_option maxRecDepth 100000 in
theorem w_Mo_refuse_13 {p : Program} {l : Launch} {e : Env} {s : State} {m : MethodId} {args : Array Value} {below : List Frame} {meth : Method} {c : Code} {D : va_G} {A : Nat → Prop} {ad : Nat → Nat} {ca : Nat → ClassId} (o : z_Sg) (C0 : z_cx z_RMo b_Mo_refuse 2 none D (z_Mt ca) A p s m args meth c) (q : z_Sg) (h : k_Mo_refuse_13 q = some o) : ∀ (H : Heap) (locs : List Loc) (ls : Array Slot), z_wd D (z_M ad ca q) A s H locs → lv_has ls 2 [] → W p l e (z_rm 0 0) s m args below meth c H locs 0 0 (z_qv below D (z_Mt ca) (z_M ad ca o) A s args) (F0 m 13 ls []) := by
  obtain ⟨hx, hb, hr, hlk, hml, hown, hts, hK, hA⟩ := id C0
  intro H locs ls hw hl
  have ho := Option.some.inj h
  subst ho
  exact z_rtv C0 hw d_Mo_refuse_13
set_option maxHeartbeats 4000000 in
set_option maxRecDepth 100000 in
theorem c_Mo_refuse {l : Launch} {D : va_G} {ad : Nat → Nat} {ca : Nat → ClassId} (x1 : Int32) (q : z_Sg) (o : z_Sg) (h : f_Mo_refuse x1 q = some o) : z_cv l y_Mo_refuse b_Mo_refuse 2 none 0 0 D (z_Mt ca) (z_M ad ca q) (z_M ad ca o) [.ref (ad 0), .int x1] := by
  refine z_cv_of (own := z_RMo) (by decide) rfl ?_
  intro p e s m below meth c A C0 hw
  obtain ⟨hx, hb, hr, hlk, hml, hown, hts, hK, hA⟩ := id C0
  generalize hH : s.heap = H at hw ⊢
  generalize hlo : ([] : List Loc) = locs at hw ⊢
  refine z_entry (lv := [(0, .ref (ad 0)), (1, .int x1)]) (Nat.le_of_ble_eq_true rfl) rfl (fun ls hl => ?_)
  unfold f_Mo_refuse at h
  refine lv_aload_n hx hb d_Mo_refuse_0 rfl (lv_at hl 0 rfl) ?_
  refine gfM_0_refused C0 hw fl_Mo_28 d_Mo_refuse_1 ?_
  refine lv_iconst (v := (-1 : Int32)) hx hb d_Mo_refuse_4 (by decide) ?_
  refine lv_icmp_ne (tgt := 13) hx hb d_Mo_refuse_5 (by decide) (fun c1 => ?_) (fun c1 => ?_)
  · have h := ok_f h c1
    exact w_Mo_refuse_13 o C0 q h H locs ls hw (lv_sub hl [] rfl)
  · have h := ok_t h c1
    refine lv_aload_n hx hb d_Mo_refuse_8 rfl (lv_at hl 0 rfl) ?_
    refine lv_iload_n hx hb d_Mo_refuse_9 rfl (lv_at hl 1 rfl) ?_
    refine pfM_0_refused C0 hw fl_Mo_28 d_Mo_refuse_10 (fun H locs hw => ?_)
    obtain ⟨q2, eq2, h⟩ := ok_n h
    rw [← eq2] at hw
    exact w_Mo_refuse_13 o C0 q2 h H locs ls hw (lv_sub hl [] rfl)
def k_Mo_lookUp_107 (q : z_Sg) : Option z_Sg :=
  some q
def k_Mo_lookUp_101 (ih3 : Int64 × Int32 × Int32 × Int32 × Int32 × z_Sg → Option z_Sg) (x1 : Int64) (x3 : Int32) (x4 : Int32) (x5 : Int32) (x6 : Int32) (q : z_Sg) : Option z_Sg :=
  z_nm (x6 + (1 : Int32)) (fun n13 => ih3 (x1, x3, x4, x5, n13, q))
def k_Mo_lookUp_41 (t1 : Int32) (q : z_Sg) : Option z_Sg :=
  (f_Mo_refuse t1 q).bind (fun r15 => some r15)
def kb_Mo_lookUp_3 (ih3 : Int64 × Int32 × Int32 × Int32 × Int32 × z_Sg → Option z_Sg) (x1 : Int64) (x3 : Int32) (x4 : Int32) (x5 : Int32) (x6 : Int32) (q : z_Sg) : Option z_Sg :=
  if x3 ≤ x6 then (k_Mo_lookUp_107 q) else (if (z_gI q 4) = (-1 : Int32) then ((f_Mo_isWrong (x1 + (x6.toInt64)) q).bind (fun r3 => if r3 = 0 then ((f_Mo_find (x1 + (x6.toInt64)) x4 q).bind (fun r5 => if z_bad x6 8 then none else (z_nm (z_sM r5.2 3 x6.toNatClampNeg r5.1) (fun q7 => if z_bad x6 8 then none else (if (z_gM q7 3 x6.toNatClampNeg) < (0 : Int64) then ((f_Mo_refuse (14 : Int32) q7).bind (fun r10 => z_nm (z_sL r10 5 (x1 + (x6.toInt64))) (fun q11 => z_nm (z_sI q11 0 (z_gI q11 1)) (fun q12 => k_Mo_lookUp_101 ih3 x1 x3 x4 x5 x6 q12)))) else (k_Mo_lookUp_101 ih3 x1 x3 x4 x5 x6 q7)))))) else (if x5 = 0 then (k_Mo_lookUp_41 (13 : Int32) q) else (k_Mo_lookUp_41 (12 : Int32) q)))) else (k_Mo_lookUp_107 q))
def k_Mo_lookUp_3 (x1 : Int64) (x3 : Int32) (x4 : Int32) (x5 : Int32) (x6 : Int32) (q : z_Sg) : Option z_Sg := z_lo (fun ih3 a => kb_Mo_lookUp_3 ih3 a.1 a.2.1 a.2.2.1 a.2.2.2.1 a.2.2.2.2.1 a.2.2.2.2.2) 2000 (x1, x3, x4, x5, x6, q)
def f_Mo_lookUp (x1 : Int64) (x3 : Int32) (x4 : Int32) (x5 : Int32) (q : z_Sg) : Option z_Sg :=
  k_Mo_lookUp_3 x1 x3 x4 x5 (0 : Int32) q
set_option maxHeartbeats 4000000 in
set_option maxRecDepth 100000 in
theorem w_Mo_lookUp_107 {p : Program} {l : Launch} {e : Env} {s : State} {m : MethodId} {args : Array Value} {below : List Frame} {meth : Method} {c : Code} {D : va_G} {A : Nat → Prop} {ad : Nat → Nat} {ca : Nat → ClassId} (o : z_Sg) (C0 : z_cx z_RMo b_Mo_lookUp 7 none D (z_Mt ca) A p s m args meth c) (q : z_Sg) (h : k_Mo_lookUp_107 q = some o) : ∀ (H : Heap) (locs : List Loc) (ls : Array Slot), z_wd D (z_M ad ca q) A s H locs → lv_has ls 7 [] → W p l e (z_rm 3 81) s m args below meth c H locs 0 0 (z_qv below D (z_Mt ca) (z_M ad ca o) A s args) (F0 m 107 ls []) := by
  obtain ⟨hx, hb, hr, hlk, hml, hown, hts, hK, hA⟩ := id C0
  intro H locs ls hw hl
  have ho := Option.some.inj h
  subst ho
  exact z_rtv C0 hw d_Mo_lookUp_107
set_option maxHeartbeats 4000000 in
set_option maxRecDepth 100000 in
theorem w_Mo_lookUp_101 {p : Program} {l : Launch} {e : Env} {s : State} {m : MethodId} {args : Array Value} {below : List Frame} {meth : Method} {c : Code} {D : va_G} {A : Nat → Prop} {ad : Nat → Nat} {ca : Nat → ClassId} (o : z_Sg) (C0 : z_cx z_RMo b_Mo_lookUp 7 none D (z_Mt ca) A p s m args meth c) (q : z_Sg) (ih3 : Int64 × Int32 × Int32 × Int32 × Int32 × z_Sg → Option z_Sg) (hi3 : ∀ a : Int64 × Int32 × Int32 × Int32 × Int32 × z_Sg, ih3 a = some o → ∀ (H : Heap) (locs : List Loc) (ls : Array Slot), z_wd D (z_M ad ca a.2.2.2.2.2) A s H locs → lv_has ls 7 [(0, .ref (ad 0)), (1, .long a.1), (3, .int a.2.1), (4, .int a.2.2.1), (5, .int a.2.2.2.1), (6, .int a.2.2.2.2.1)] → W p l e (z_rm 3 81) s m args below meth c H locs 0 0 (z_qv below D (z_Mt ca) (z_M ad ca o) A s args) (F0 m 3 ls [])) (x1 : Int64) (x3 : Int32) (x4 : Int32) (x5 : Int32) (x6 : Int32) (h : k_Mo_lookUp_101 ih3 x1 x3 x4 x5 x6 q = some o) : ∀ (H : Heap) (locs : List Loc) (ls : Array Slot), z_wd D (z_M ad ca q) A s H locs → lv_has ls 7 [(0, .ref (ad 0)), (1, .long x1), (3, .int x3), (4, .int x4), (5, .int x5), (6, .int x6)] → W p l e (z_rm 3 81) s m args below meth c H locs 0 0 (z_qv below D (z_Mt ca) (z_M ad ca o) A s args) (F0 m 101 ls []) := by
  obtain ⟨hx, hb, hr, hlk, hml, hown, hts, hK, hA⟩ := id C0
  intro H locs ls hw hl
  obtain ⟨n13, en13, h⟩ := ok_n h
  refine lv_iinc (v := n13) (lv' := [(6, .int n13), (0, .ref (ad 0)), (1, .long x1), (3, .int x3), (4, .int x4), (5, .int x5)]) hx hb d_Mo_lookUp_101 hl (k := 5) rfl (by rw [en13]; rfl) (by decide) rfl (fun ls hl => ?_)
  refine lv_goto (tgt := 3) hx hb d_Mo_lookUp_104 (by decide) ?_
  exact hi3 (x1, x3, x4, x5, n13, q) h H locs ls hw (lv_sub hl [1, 2, 3, 4, 5, 0] rfl)
set_option maxHeartbeats 4000000 in
set_option maxRecDepth 100000 in
theorem w_Mo_lookUp_41 {p : Program} {l : Launch} {e : Env} {s : State} {m : MethodId} {args : Array Value} {below : List Frame} {meth : Method} {c : Code} {D : va_G} {A : Nat → Prop} {ad : Nat → Nat} {ca : Nat → ClassId} (o : z_Sg) (C0 : z_cx z_RMo b_Mo_lookUp 7 none D (z_Mt ca) A p s m args meth c) (q : z_Sg) (t1 : Int32) (h : k_Mo_lookUp_41 t1 q = some o) : ∀ (H : Heap) (locs : List Loc) (ls : Array Slot), z_wd D (z_M ad ca q) A s H locs → lv_has ls 7 [] → W p l e (z_rm 3 81) s m args below meth c H locs 0 0 (z_qv below D (z_Mt ca) (z_M ad ca o) A s args) (F0 m 41 ls [.int t1, .ref (ad 0)]) := by
  obtain ⟨hx, hb, hr, hlk, hml, hown, hts, hK, hA⟩ := id C0
  intro H locs ls hw hl
  obtain ⟨r15, er15, h⟩ := ok_b h
  refine z_vv (rest := []) C0 hw (c_Mo_refuse t1 q r15 er15) mw_Mo_refuse ml_Mo_81 0 rfl ⟨Nat.le_of_ble_eq_true rfl, Nat.le_of_ble_eq_true rfl⟩ ⟨Nat.le_refl 0, Nat.le_refl 0⟩ rfl hl.1 rfl (Nat.le_of_ble_eq_true rfl) d_Mo_lookUp_41 (fun H locs hw => ?_)
  have ho := Option.some.inj h
  subst ho
  exact z_rtv C0 hw d_Mo_lookUp_44
set_option maxHeartbeats 4000000 in
set_option maxRecDepth 100000 in
theorem wb_Mo_lookUp_3 {p : Program} {l : Launch} {e : Env} {s : State} {m : MethodId} {args : Array Value} {below : List Frame} {meth : Method} {c : Code} {D : va_G} {A : Nat → Prop} {ad : Nat → Nat} {ca : Nat → ClassId} (o : z_Sg) (C0 : z_cx z_RMo b_Mo_lookUp 7 none D (z_Mt ca) A p s m args meth c) (q : z_Sg) (ih3 : Int64 × Int32 × Int32 × Int32 × Int32 × z_Sg → Option z_Sg) (hi3 : ∀ a : Int64 × Int32 × Int32 × Int32 × Int32 × z_Sg, ih3 a = some o → ∀ (H : Heap) (locs : List Loc) (ls : Array Slot), z_wd D (z_M ad ca a.2.2.2.2.2) A s H locs → lv_has ls 7 [(0, .ref (ad 0)), (1, .long a.1), (3, .int a.2.1), (4, .int a.2.2.1), (5, .int a.2.2.2.1), (6, .int a.2.2.2.2.1)] → W p l e (z_rm 3 81) s m args below meth c H locs 0 0 (z_qv below D (z_Mt ca) (z_M ad ca o) A s args) (F0 m 3 ls [])) (x1 : Int64) (x3 : Int32) (x4 : Int32) (x5 : Int32) (x6 : Int32) (h : kb_Mo_lookUp_3 ih3 x1 x3 x4 x5 x6 q = some o) : ∀ (H : Heap) (locs : List Loc) (ls : Array Slot), z_wd D (z_M ad ca q) A s H locs → lv_has ls 7 [(0, .ref (ad 0)), (1, .long x1), (3, .int x3), (4, .int x4), (5, .int x5), (6, .int x6)] → W p l e (z_rm 3 81) s m args below meth c H locs 0 0 (z_qv below D (z_Mt ca) (z_M ad ca o) A s args) (F0 m 3 ls []) := by
  obtain ⟨hx, hb, hr, hlk, hml, hown, hts, hK, hA⟩ := id C0
  intro H locs ls hw hl
  refine lv_iload hx hb d_Mo_lookUp_3 (lv_at hl 5 rfl) ?_
  refine lv_iload_n hx hb d_Mo_lookUp_5 rfl (lv_at hl 2 rfl) ?_
  refine lv_icmp_ge (tgt := 107) hx hb d_Mo_lookUp_6 (by decide) (fun c1 => ?_) (fun c1 => ?_)
  · have h := ok_t h c1
    exact w_Mo_lookUp_107 o C0 q h H locs ls hw (lv_sub hl [] rfl)
  · have h := ok_f h c1
    refine lv_aload_n hx hb d_Mo_lookUp_9 rfl (lv_at hl 0 rfl) ?_
    refine gfM_0_refused C0 hw fl_Mo_28 d_Mo_lookUp_10 ?_
    refine lv_iconst (v := (-1 : Int32)) hx hb d_Mo_lookUp_13 (by decide) ?_
    refine lv_icmp_ne (tgt := 107) hx hb d_Mo_lookUp_14 (by decide) (fun c2 => ?_) (fun c2 => ?_)
    · have h := ok_f h c2
      exact w_Mo_lookUp_107 o C0 q h H locs ls hw (lv_sub hl [] rfl)
    · have h := ok_t h c2
      refine lv_lload_n hx hb d_Mo_lookUp_17 rfl (lv_at hl 1 rfl) ?_
      refine lv_iload hx hb d_Mo_lookUp_18 (lv_at hl 5 rfl) ?_
      refine lv_i2l hx hb d_Mo_lookUp_20 rfl ?_
      refine lv_ladd hx hb d_Mo_lookUp_21 ?_
      obtain ⟨r3, er3, h⟩ := ok_b h
      refine z_si (rest := []) C0 hw (c_Mo_isWrong (x1 + (x6.toInt64)) q r3 er3) mw_Mo_isWrong ml_Mo_77 ⟨Nat.le_of_ble_eq_true rfl, Nat.le_of_ble_eq_true rfl⟩ ⟨Nat.le_refl 0, Nat.le_refl 0⟩ rfl hl.1 rfl (Nat.le_of_ble_eq_true rfl) d_Mo_lookUp_22 (fun H locs hw => ?_)
      refine lv_if_eq (tgt := 45) hx hb d_Mo_lookUp_25 (by decide) (fun c4 => ?_) (fun c4 => ?_)
      · have h := ok_t h c4
        refine lv_aload_n hx hb d_Mo_lookUp_45 rfl (lv_at hl 0 rfl) ?_
        refine gfM_0_lies C0 hw fl_Mo_39 d_Mo_lookUp_46 ?_
        refine lv_iload hx hb d_Mo_lookUp_49 (lv_at hl 5 rfl) ?_
        refine lv_aload_n hx hb d_Mo_lookUp_51 rfl (lv_at hl 0 rfl) ?_
        refine lv_lload_n hx hb d_Mo_lookUp_52 rfl (lv_at hl 1 rfl) ?_
        refine lv_iload hx hb d_Mo_lookUp_53 (lv_at hl 5 rfl) ?_
        refine lv_i2l hx hb d_Mo_lookUp_55 rfl ?_
        refine lv_ladd hx hb d_Mo_lookUp_56 ?_
        refine lv_iload hx hb d_Mo_lookUp_57 (lv_at hl 3 rfl) ?_
        obtain ⟨r5, er5, h⟩ := ok_b h
        refine z_vl (rest := [.int x6, .ref (ad 8)]) C0 hw (c_Mo_find (x1 + (x6.toInt64)) x4 q r5 er5) mw_Mo_find ml_Mo_85 0 rfl ⟨Nat.le_of_ble_eq_true rfl, Nat.le_of_ble_eq_true rfl⟩ ⟨Nat.le_refl 0, Nat.le_refl 0⟩ rfl hl.1 rfl (Nat.le_of_ble_eq_true rfl) d_Mo_lookUp_59 (fun H locs hw => ?_)
        obtain ⟨b6, h⟩ := ok_g h
        refine asM_8 C0 hw b6 d_Mo_lookUp_62 (fun H locs hw => ?_)
        obtain ⟨q7, eq7, h⟩ := ok_n h
        rw [← eq7] at hw
        refine lv_aload_n hx hb d_Mo_lookUp_63 rfl (lv_at hl 0 rfl) ?_
        refine gfM_0_lies C0 hw fl_Mo_39 d_Mo_lookUp_64 ?_
        refine lv_iload hx hb d_Mo_lookUp_67 (lv_at hl 5 rfl) ?_
        obtain ⟨b8, h⟩ := ok_g h
        refine alM_8 C0 hw b8 d_Mo_lookUp_69 ?_
        refine lv_lconst (v := (0 : Int64)) hx hb d_Mo_lookUp_70 (by decide) ?_
        refine W.lcmp hx hb d_Mo_lookUp_71 ?_
        refine lv_if_lt (tgt := 78) hx hb d_Mo_lookUp_72 (by decide) (fun c9 => ?_) (fun c9 => ?_)
        · have h := ok_t h ((lg_cmp_lt _ _).mp c9)
          refine lv_aload_n hx hb d_Mo_lookUp_78 rfl (lv_at hl 0 rfl) ?_
          refine lv_bipush (v := (14 : Int32)) hx hb d_Mo_lookUp_79 (by decide) ?_
          obtain ⟨r10, er10, h⟩ := ok_b h
          refine z_vv (rest := []) C0 hw (c_Mo_refuse (14 : Int32) q7 r10 er10) mw_Mo_refuse ml_Mo_81 0 rfl ⟨Nat.le_of_ble_eq_true rfl, Nat.le_of_ble_eq_true rfl⟩ ⟨Nat.le_refl 0, Nat.le_refl 0⟩ rfl hl.1 rfl (Nat.le_of_ble_eq_true rfl) d_Mo_lookUp_81 (fun H locs hw => ?_)
          refine lv_aload_n hx hb d_Mo_lookUp_84 rfl (lv_at hl 0 rfl) ?_
          refine lv_lload_n hx hb d_Mo_lookUp_85 rfl (lv_at hl 1 rfl) ?_
          refine lv_iload hx hb d_Mo_lookUp_86 (lv_at hl 5 rfl) ?_
          refine lv_i2l hx hb d_Mo_lookUp_88 rfl ?_
          refine lv_ladd hx hb d_Mo_lookUp_89 ?_
          refine pfM_0_fault C0 hw fl_Mo_89 d_Mo_lookUp_90 (fun H locs hw => ?_)
          obtain ⟨q11, eq11, h⟩ := ok_n h
          rw [← eq11] at hw
          refine lv_aload_n hx hb d_Mo_lookUp_93 rfl (lv_at hl 0 rfl) ?_
          refine lv_aload_n hx hb d_Mo_lookUp_94 rfl (lv_at hl 0 rfl) ?_
          refine gfM_0_lookCode C0 hw fl_Mo_68 d_Mo_lookUp_95 ?_
          refine pfM_0_code C0 hw fl_Mo_92 d_Mo_lookUp_98 (fun H locs hw => ?_)
          obtain ⟨q12, eq12, h⟩ := ok_n h
          rw [← eq12] at hw
          exact w_Mo_lookUp_101 o C0 q12 ih3 hi3 x1 x3 x4 x5 x6 h H locs ls hw (lv_sub hl [0, 1, 2, 3, 4, 5] rfl)
        · have h := ok_f h (fun z => c9 ((lg_cmp_lt _ _).mpr z))
          refine lv_goto (tgt := 101) hx hb d_Mo_lookUp_75 (by decide) ?_
          exact w_Mo_lookUp_101 o C0 q7 ih3 hi3 x1 x3 x4 x5 x6 h H locs ls hw (lv_sub hl [0, 1, 2, 3, 4, 5] rfl)
      · have h := ok_f h c4
        refine lv_aload_n hx hb d_Mo_lookUp_28 rfl (lv_at hl 0 rfl) ?_
        refine lv_iload hx hb d_Mo_lookUp_29 (lv_at hl 4 rfl) ?_
        refine lv_if_eq (tgt := 39) hx hb d_Mo_lookUp_31 (by decide) (fun c14 => ?_) (fun c14 => ?_)
        · have h := ok_t h c14
          refine lv_bipush (v := (13 : Int32)) hx hb d_Mo_lookUp_39 (by decide) ?_
          exact w_Mo_lookUp_41 o C0 q (13 : Int32) h H locs ls hw (lv_sub hl [] rfl)
        · have h := ok_f h c14
          refine lv_bipush (v := (12 : Int32)) hx hb d_Mo_lookUp_34 (by decide) ?_
          refine lv_goto (tgt := 41) hx hb d_Mo_lookUp_36 (by decide) ?_
          exact w_Mo_lookUp_41 o C0 q (12 : Int32) h H locs ls hw (lv_sub hl [] rfl)
theorem w_Mo_lookUp_3 {p : Program} {l : Launch} {e : Env} {s : State} {m : MethodId} {args : Array Value} {below : List Frame} {meth : Method} {c : Code} {D : va_G} {A : Nat → Prop} {ad : Nat → Nat} {ca : Nat → ClassId} (o : z_Sg) (C0 : z_cx z_RMo b_Mo_lookUp 7 none D (z_Mt ca) A p s m args meth c) (q : z_Sg) (x1 : Int64) (x3 : Int32) (x4 : Int32) (x5 : Int32) (x6 : Int32) (h : k_Mo_lookUp_3 x1 x3 x4 x5 x6 q = some o) : ∀ (H : Heap) (locs : List Loc) (ls : Array Slot), z_wd D (z_M ad ca q) A s H locs → lv_has ls 7 [(0, .ref (ad 0)), (1, .long x1), (3, .int x3), (4, .int x4), (5, .int x5), (6, .int x6)] → W p l e (z_rm 3 81) s m args below meth c H locs 0 0 (z_qv below D (z_Mt ca) (z_M ad ca o) A s args) (F0 m 3 ls []) := by
  have key : ∀ (n : Nat) (a : Int64 × Int32 × Int32 × Int32 × Int32 × z_Sg), z_lo (fun ih3 a => kb_Mo_lookUp_3 ih3 a.1 a.2.1 a.2.2.1 a.2.2.2.1 a.2.2.2.2.1 a.2.2.2.2.2) n a = some o → ∀ (H : Heap) (locs : List Loc) (ls : Array Slot), z_wd D (z_M ad ca a.2.2.2.2.2) A s H locs → lv_has ls 7 [(0, .ref (ad 0)), (1, .long a.1), (3, .int a.2.1), (4, .int a.2.2.1), (5, .int a.2.2.2.1), (6, .int a.2.2.2.2.1)] → W p l e (z_rm 3 81) s m args below meth c H locs 0 0 (z_qv below D (z_Mt ca) (z_M ad ca o) A s args) (F0 m 3 ls []) := by
    intro n
    induction n with
    | zero => intro a h; cases h
    | succ n ih => exact fun a h => wb_Mo_lookUp_3 o C0 a.2.2.2.2.2 (z_lo (fun ih3 a => kb_Mo_lookUp_3 ih3 a.1 a.2.1 a.2.2.1 a.2.2.2.1 a.2.2.2.2.1 a.2.2.2.2.2) n) ih a.1 a.2.1 a.2.2.1 a.2.2.2.1 a.2.2.2.2.1 h
  exact key 2000 (x1, x3, x4, x5, x6, q) h
set_option maxHeartbeats 4000000 in
set_option maxRecDepth 100000 in
theorem c_Mo_lookUp {l : Launch} {D : va_G} {ad : Nat → Nat} {ca : Nat → ClassId} (x1 : Int64) (x3 : Int32) (x4 : Int32) (x5 : Int32) (q : z_Sg) (o : z_Sg) (h : f_Mo_lookUp x1 x3 x4 x5 q = some o) : z_cv l y_Mo_lookUp b_Mo_lookUp 7 none 3 81 D (z_Mt ca) (z_M ad ca q) (z_M ad ca o) [.ref (ad 0), .long x1, .int x3, .int x4, .int x5] := by
  refine z_cv_of (own := z_RMo) (by decide) rfl ?_
  intro p e s m below meth c A C0 hw
  obtain ⟨hx, hb, hr, hlk, hml, hown, hts, hK, hA⟩ := id C0
  generalize hH : s.heap = H at hw ⊢
  generalize hlo : ([] : List Loc) = locs at hw ⊢
  refine z_entry (lv := [(0, .ref (ad 0)), (1, .long x1), (3, .int x3), (4, .int x4), (5, .int x5)]) (Nat.le_of_ble_eq_true rfl) rfl (fun ls hl => ?_)
  unfold f_Mo_lookUp at h
  refine lv_iconst (v := (0 : Int32)) hx hb d_Mo_lookUp_0 (by decide) ?_
  refine lv_istore (lv' := [(6, .int (0 : Int32)), (0, .ref (ad 0)), (1, .long x1), (3, .int x3), (4, .int x4), (5, .int x5)]) hx hb d_Mo_lookUp_1 hl (by decide) rfl (fun ls hl => ?_)
  exact w_Mo_lookUp_3 o C0 q x1 x3 x4 x5 (0 : Int32) h H locs ls hw (lv_sub hl [1, 2, 3, 4, 5, 0] rfl)
def k_Mo_fetch_23 (q : z_Sg) : Option (Int32 × z_Sg) :=
  (f_Mo_lookUp ((z_gL q 0) + ((z_gI q 6).toInt64)) (1 : Int32) (2 : Int32) (0 : Int32) q).bind (fun r2 => if (z_gI r2 4) = (-1 : Int32) then (z_nm (z_sI r2 6 ((z_gI r2 6) + (1 : Int32))) (fun q4 => if z_bad (0 : Int32) 8 then none else ((f_Mo_byteAt (z_gM q4 3 (0 : Int32).toNatClampNeg) q4).bind (fun r6 => some (r6, q4))))) else (some ((0 : Int32), r2)))
def f_Mo_fetch (q : z_Sg) : Option (Int32 × z_Sg) :=
  if (z_gI q 4) = (-1 : Int32) then (if (z_gI q 6) = (15 : Int32) then ((f_Mo_refuse (13 : Int32) q).bind (fun r8 => k_Mo_fetch_23 r8)) else (k_Mo_fetch_23 q)) else (k_Mo_fetch_23 q)
set_option maxHeartbeats 4000000 in
set_option maxRecDepth 100000 in
theorem w_Mo_fetch_23 {p : Program} {l : Launch} {e : Env} {s : State} {m : MethodId} {args : Array Value} {below : List Frame} {meth : Method} {c : Code} {D : va_G} {A : Nat → Prop} {ad : Nat → Nat} {ca : Nat → ClassId} (o : (Int32 × z_Sg)) (C0 : z_cx z_RMo b_Mo_fetch 1 (some .int) D (z_Mt ca) A p s m args meth c) (q : z_Sg) (h : k_Mo_fetch_23 q = some o) : ∀ (H : Heap) (locs : List Loc) (ls : Array Slot), z_wd D (z_M ad ca q) A s H locs → lv_has ls 1 [(0, .ref (ad 0))] → W p l e (z_rm 4 107) s m args below meth c H locs 0 0 (z_qi below D (z_Mt ca) (z_M ad ca o.2) A s args o.1) (F0 m 23 ls []) := by
  obtain ⟨hx, hb, hr, hlk, hml, hown, hts, hK, hA⟩ := id C0
  intro H locs ls hw hl
  refine lv_aload_n hx hb d_Mo_fetch_23 rfl (lv_at hl 0 rfl) ?_
  refine lv_aload_n hx hb d_Mo_fetch_24 rfl (lv_at hl 0 rfl) ?_
  refine gfM_0_next C0 hw fl_Mo_111 d_Mo_fetch_25 ?_
  refine lv_aload_n hx hb d_Mo_fetch_28 rfl (lv_at hl 0 rfl) ?_
  refine gfM_0_length C0 hw fl_Mo_108 d_Mo_fetch_29 ?_
  refine lv_i2l hx hb d_Mo_fetch_32 rfl ?_
  refine lv_ladd hx hb d_Mo_fetch_33 ?_
  refine lv_iconst (v := (1 : Int32)) hx hb d_Mo_fetch_34 (by decide) ?_
  refine lv_iconst (v := (2 : Int32)) hx hb d_Mo_fetch_35 (by decide) ?_
  refine lv_iconst (v := (0 : Int32)) hx hb d_Mo_fetch_36 (by decide) ?_
  obtain ⟨r2, er2, h⟩ := ok_b h
  refine z_vv (rest := []) C0 hw (c_Mo_lookUp ((z_gL q 0) + ((z_gI q 6).toInt64)) (1 : Int32) (2 : Int32) (0 : Int32) q r2 er2) mw_Mo_lookUp ml_Mo_95 0 rfl ⟨Nat.le_of_ble_eq_true rfl, Nat.le_of_ble_eq_true rfl⟩ ⟨Nat.le_refl 0, Nat.le_refl 0⟩ rfl hl.1 rfl (Nat.le_of_ble_eq_true rfl) d_Mo_fetch_37 (fun H locs hw => ?_)
  refine lv_aload_n hx hb d_Mo_fetch_40 rfl (lv_at hl 0 rfl) ?_
  refine gfM_0_refused C0 hw fl_Mo_28 d_Mo_fetch_41 ?_
  refine lv_iconst (v := (-1 : Int32)) hx hb d_Mo_fetch_44 (by decide) ?_
  refine lv_icmp_eq (tgt := 50) hx hb d_Mo_fetch_45 (by decide) (fun c3 => ?_) (fun c3 => ?_)
  · have h := ok_t h c3
    refine lv_aload_n hx hb d_Mo_fetch_50 rfl (lv_at hl 0 rfl) ?_
    refine lv_dup hx hb d_Mo_fetch_51 rfl ?_
    refine gfM_0_length C0 hw fl_Mo_108 d_Mo_fetch_52 ?_
    refine lv_iconst (v := (1 : Int32)) hx hb d_Mo_fetch_55 (by decide) ?_
    refine lv_iadd hx hb d_Mo_fetch_56 ?_
    refine pfM_0_length C0 hw fl_Mo_108 d_Mo_fetch_57 (fun H locs hw => ?_)
    obtain ⟨q4, eq4, h⟩ := ok_n h
    rw [← eq4] at hw
    refine lv_aload_n hx hb d_Mo_fetch_60 rfl (lv_at hl 0 rfl) ?_
    refine lv_aload_n hx hb d_Mo_fetch_61 rfl (lv_at hl 0 rfl) ?_
    refine gfM_0_lies C0 hw fl_Mo_39 d_Mo_fetch_62 ?_
    refine lv_iconst (v := (0 : Int32)) hx hb d_Mo_fetch_65 (by decide) ?_
    obtain ⟨b5, h⟩ := ok_g h
    refine alM_8 C0 hw b5 d_Mo_fetch_66 ?_
    obtain ⟨r6, er6, h⟩ := ok_b h
    refine z_vi (rest := []) C0 hw (c_Mo_byteAt (z_gM q4 3 (0 : Int32).toNatClampNeg) q4 r6 er6) mw_Mo_byteAt ml_Mo_44 0 rfl ⟨Nat.le_of_ble_eq_true rfl, Nat.le_of_ble_eq_true rfl⟩ ⟨Nat.le_refl 0, Nat.le_refl 0⟩ rfl hl.1 rfl (Nat.le_of_ble_eq_true rfl) d_Mo_fetch_67 (fun H locs hw => ?_)
    have ho := Option.some.inj h
    subst ho
    exact z_rti C0 hw d_Mo_fetch_70
  · have h := ok_f h c3
    refine lv_iconst (v := (0 : Int32)) hx hb d_Mo_fetch_48 (by decide) ?_
    have ho := Option.some.inj h
    subst ho
    exact z_rti C0 hw d_Mo_fetch_49
set_option maxHeartbeats 4000000 in
set_option maxRecDepth 100000 in
theorem c_Mo_fetch {l : Launch} {D : va_G} {ad : Nat → Nat} {ca : Nat → ClassId} (q : z_Sg) (o : (Int32 × z_Sg)) (h : f_Mo_fetch q = some o) : z_ci l y_Mo_fetch b_Mo_fetch 1 (some .int) 4 107 D (z_Mt ca) (z_M ad ca q) (z_M ad ca o.2) [.ref (ad 0)] o.1 := by
  refine z_ci_of (own := z_RMo) (by decide) rfl ?_
  intro p e s m below meth c A C0 hw
  obtain ⟨hx, hb, hr, hlk, hml, hown, hts, hK, hA⟩ := id C0
  generalize hH : s.heap = H at hw ⊢
  generalize hlo : ([] : List Loc) = locs at hw ⊢
  refine z_entry (lv := [(0, .ref (ad 0))]) (Nat.le_of_ble_eq_true rfl) rfl (fun ls hl => ?_)
  unfold f_Mo_fetch at h
  refine lv_aload_n hx hb d_Mo_fetch_0 rfl (lv_at hl 0 rfl) ?_
  refine gfM_0_refused C0 hw fl_Mo_28 d_Mo_fetch_1 ?_
  refine lv_iconst (v := (-1 : Int32)) hx hb d_Mo_fetch_4 (by decide) ?_
  refine lv_icmp_ne (tgt := 23) hx hb d_Mo_fetch_5 (by decide) (fun c1 => ?_) (fun c1 => ?_)
  · have h := ok_f h c1
    exact w_Mo_fetch_23 o C0 q h H locs ls hw (lv_sub hl [0] rfl)
  · have h := ok_t h c1
    refine lv_aload_n hx hb d_Mo_fetch_8 rfl (lv_at hl 0 rfl) ?_
    refine gfM_0_length C0 hw fl_Mo_108 d_Mo_fetch_9 ?_
    refine lv_bipush (v := (15 : Int32)) hx hb d_Mo_fetch_12 (by decide) ?_
    refine lv_icmp_ne (tgt := 23) hx hb d_Mo_fetch_14 (by decide) (fun c7 => ?_) (fun c7 => ?_)
    · have h := ok_f h c7
      exact w_Mo_fetch_23 o C0 q h H locs ls hw (lv_sub hl [0] rfl)
    · have h := ok_t h c7
      refine lv_aload_n hx hb d_Mo_fetch_17 rfl (lv_at hl 0 rfl) ?_
      refine lv_bipush (v := (13 : Int32)) hx hb d_Mo_fetch_18 (by decide) ?_
      obtain ⟨r8, er8, h⟩ := ok_b h
      refine z_vv (rest := []) C0 hw (c_Mo_refuse (13 : Int32) q r8 er8) mw_Mo_refuse ml_Mo_81 0 rfl ⟨Nat.le_of_ble_eq_true rfl, Nat.le_of_ble_eq_true rfl⟩ ⟨Nat.le_refl 0, Nat.le_refl 0⟩ rfl hl.1 rfl (Nat.le_of_ble_eq_true rfl) d_Mo_fetch_20 (fun H locs hw => ?_)
      exact w_Mo_fetch_23 o C0 r8 h H locs ls hw (lv_sub hl [0] rfl)
def k_Mo_open_167 (t1 : Int32) (q : z_Sg) : Option z_Sg :=
  z_nm (z_sI q 15 t1) (fun q11 => some q11)
def k_Mo_open_148 (x1 : Int32) (t1 : Int32) (q : z_Sg) : Option z_Sg :=
  z_gd (z_bo t1) (z_nm (z_sI q 18 t1) (fun q9 => if (z_gI q9 18) = 0 then (k_Mo_open_167 x1 q9) else ((f_Mo_fetch q9).bind (fun r12 => k_Mo_open_167 r12.1 r12.2))))
def k_Mo_open_147 (x1 : Int32) (q : z_Sg) : Option z_Sg :=
  k_Mo_open_148 x1 (0 : Int32) q
def k_Mo_open_128 (x1 : Int32) (q : z_Sg) : Option z_Sg :=
  if x1 = (15 : Int32) then (if (z_gI q 4) = (-1 : Int32) then (k_Mo_open_148 x1 (1 : Int32) q) else (k_Mo_open_147 x1 q)) else (k_Mo_open_147 x1 q)
def k_Mo_open_120 (ih25 : Int32 × z_Sg → Option z_Sg) (q : z_Sg) : Option z_Sg :=
  (f_Mo_fetch q).bind (fun r21 => ih25 (r21.1, r21.2))
def k_Mo_open_105 (ih25 : Int32 × z_Sg → Option z_Sg) (x1 : Int32) (t1 : Int32) (q : z_Sg) : Option z_Sg :=
  z_gd (z_bo t1) (z_nm (z_sI q 16 t1) (fun q19 => if x1 ≤ (240 : Int32) then (k_Mo_open_120 ih25 q19) else (z_nm (z_sI q19 11 x1) (fun q22 => k_Mo_open_120 ih25 q22))))
def k_Mo_open_100 (ih25 : Int32 × z_Sg → Option z_Sg) (x1 : Int32) (q : z_Sg) : Option z_Sg :=
  k_Mo_open_105 ih25 x1 (1 : Int32) q
def k_Mo_open_83 (ih25 : Int32 × z_Sg → Option z_Sg) (x1 : Int32) (t1 : Int32) (q : z_Sg) : Option z_Sg :=
  z_nm (z_sI q 10 t1) (fun q16 => if (z_gI q16 16) = 0 then (if x1 = (102 : Int32) then (k_Mo_open_100 ih25 x1 q16) else (k_Mo_open_105 ih25 x1 (0 : Int32) q16)) else (k_Mo_open_100 ih25 x1 q16))
def k_Mo_open_82 (ih25 : Int32 × z_Sg → Option z_Sg) (x1 : Int32) (q : z_Sg) : Option z_Sg :=
  k_Mo_open_83 ih25 x1 (0 : Int32) q
def k_Mo_open_65 (ih25 : Int32 × z_Sg → Option z_Sg) (x1 : Int32) (q : z_Sg) : Option z_Sg :=
  if x1 < (64 : Int32) then (k_Mo_open_82 ih25 x1 q) else (if (79 : Int32) < x1 then (k_Mo_open_82 ih25 x1 q) else (k_Mo_open_83 ih25 x1 x1 q))
def kb_Mo_open_25 (ih25 : Int32 × z_Sg → Option z_Sg) (x1 : Int32) (q : z_Sg) : Option z_Sg :=
  if (z_gI q 4) = (-1 : Int32) then (if x1 = (102 : Int32) then (k_Mo_open_65 ih25 x1 q) else (if x1 = (242 : Int32) then (k_Mo_open_65 ih25 x1 q) else (if x1 = (243 : Int32) then (k_Mo_open_65 ih25 x1 q) else (if x1 < (64 : Int32) then (k_Mo_open_128 x1 q) else (if (79 : Int32) < x1 then (k_Mo_open_128 x1 q) else (k_Mo_open_65 ih25 x1 q)))))) else (k_Mo_open_128 x1 q)
def k_Mo_open_25 (x1 : Int32) (q : z_Sg) : Option z_Sg := z_lo (fun ih25 a => kb_Mo_open_25 ih25 a.1 a.2) 2000 (x1, q)
def f_Mo_open (q : z_Sg) : Option z_Sg :=
  z_nm (z_sI q 6 (0 : Int32)) (fun q1 => z_nm (z_sI q1 10 (0 : Int32)) (fun q2 => z_nm (z_sI q2 11 (0 : Int32)) (fun q3 => z_nm (z_sI q3 16 (0 : Int32)) (fun q4 => (f_Mo_fetch q4).bind (fun r5 => k_Mo_open_25 r5.1 r5.2)))))
set_option maxHeartbeats 4000000 in
set_option maxRecDepth 100000 in
theorem w_Mo_open_167 {p : Program} {l : Launch} {e : Env} {s : State} {m : MethodId} {args : Array Value} {below : List Frame} {meth : Method} {c : Code} {D : va_G} {A : Nat → Prop} {ad : Nat → Nat} {ca : Nat → ClassId} (o : z_Sg) (C0 : z_cx z_RMo b_Mo_open 2 none D (z_Mt ca) A p s m args meth c) (q : z_Sg) (t1 : Int32) (h : k_Mo_open_167 t1 q = some o) : ∀ (H : Heap) (locs : List Loc) (ls : Array Slot), z_wd D (z_M ad ca q) A s H locs → lv_has ls 2 [] → W p l e (z_rm 5 127) s m args below meth c H locs 0 0 (z_qv below D (z_Mt ca) (z_M ad ca o) A s args) (F0 m 167 ls [.int t1, .ref (ad 0)]) := by
  obtain ⟨hx, hb, hr, hlk, hml, hown, hts, hK, hA⟩ := id C0
  intro H locs ls hw hl
  refine pfM_0_opcode C0 hw fl_Mo_133 d_Mo_open_167 (fun H locs hw => ?_)
  obtain ⟨q11, eq11, h⟩ := ok_n h
  rw [← eq11] at hw
  have ho := Option.some.inj h
  subst ho
  exact z_rtv C0 hw d_Mo_open_170
set_option maxHeartbeats 4000000 in
set_option maxRecDepth 100000 in
theorem w_Mo_open_148 {p : Program} {l : Launch} {e : Env} {s : State} {m : MethodId} {args : Array Value} {below : List Frame} {meth : Method} {c : Code} {D : va_G} {A : Nat → Prop} {ad : Nat → Nat} {ca : Nat → ClassId} (o : z_Sg) (C0 : z_cx z_RMo b_Mo_open 2 none D (z_Mt ca) A p s m args meth c) (q : z_Sg) (x1 : Int32) (t1 : Int32) (h : k_Mo_open_148 x1 t1 q = some o) : ∀ (H : Heap) (locs : List Loc) (ls : Array Slot), z_wd D (z_M ad ca q) A s H locs → lv_has ls 2 [(0, .ref (ad 0)), (1, .int x1)] → W p l e (z_rm 5 127) s m args below meth c H locs 0 0 (z_qv below D (z_Mt ca) (z_M ad ca o) A s args) (F0 m 148 ls [.int t1, .ref (ad 0)]) := by
  obtain ⟨hx, hb, hr, hlk, hml, hown, hts, hK, hA⟩ := id C0
  intro H locs ls hw hl
  obtain ⟨b8, h⟩ := ok_G h
  refine pfM_0_two C0 hw b8 fl_Mo_130 d_Mo_open_148 (fun H locs hw => ?_)
  obtain ⟨q9, eq9, h⟩ := ok_n h
  rw [← eq9] at hw
  refine lv_aload_n hx hb d_Mo_open_151 rfl (lv_at hl 0 rfl) ?_
  refine lv_aload_n hx hb d_Mo_open_152 rfl (lv_at hl 0 rfl) ?_
  refine gfM_0_two C0 hw fl_Mo_130 d_Mo_open_153 ?_
  refine lv_if_eq (tgt := 166) hx hb d_Mo_open_156 (by decide) (fun c10 => ?_) (fun c10 => ?_)
  · have h := ok_t h c10
    refine lv_iload_n hx hb d_Mo_open_166 rfl (lv_at hl 1 rfl) ?_
    exact w_Mo_open_167 o C0 q9 x1 h H locs ls hw (lv_sub hl [] rfl)
  · have h := ok_f h c10
    refine lv_aload_n hx hb d_Mo_open_159 rfl (lv_at hl 0 rfl) ?_
    obtain ⟨r12, er12, h⟩ := ok_b h
    refine z_vi (rest := [.ref (ad 0)]) C0 hw (c_Mo_fetch q9 r12 er12) mw_Mo_fetch ml_Mo_114 0 rfl ⟨Nat.le_of_ble_eq_true rfl, Nat.le_of_ble_eq_true rfl⟩ ⟨Nat.le_refl 0, Nat.le_refl 0⟩ rfl hl.1 rfl (Nat.le_of_ble_eq_true rfl) d_Mo_open_160 (fun H locs hw => ?_)
    refine lv_goto (tgt := 167) hx hb d_Mo_open_163 (by decide) ?_
    exact w_Mo_open_167 o C0 r12.2 r12.1 h H locs ls hw (lv_sub hl [] rfl)
set_option maxHeartbeats 4000000 in
set_option maxRecDepth 100000 in
theorem w_Mo_open_147 {p : Program} {l : Launch} {e : Env} {s : State} {m : MethodId} {args : Array Value} {below : List Frame} {meth : Method} {c : Code} {D : va_G} {A : Nat → Prop} {ad : Nat → Nat} {ca : Nat → ClassId} (o : z_Sg) (C0 : z_cx z_RMo b_Mo_open 2 none D (z_Mt ca) A p s m args meth c) (q : z_Sg) (x1 : Int32) (h : k_Mo_open_147 x1 q = some o) : ∀ (H : Heap) (locs : List Loc) (ls : Array Slot), z_wd D (z_M ad ca q) A s H locs → lv_has ls 2 [(0, .ref (ad 0)), (1, .int x1)] → W p l e (z_rm 5 127) s m args below meth c H locs 0 0 (z_qv below D (z_Mt ca) (z_M ad ca o) A s args) (F0 m 147 ls [.ref (ad 0)]) := by
  obtain ⟨hx, hb, hr, hlk, hml, hown, hts, hK, hA⟩ := id C0
  intro H locs ls hw hl
  refine lv_iconst (v := (0 : Int32)) hx hb d_Mo_open_147 (by decide) ?_
  exact w_Mo_open_148 o C0 q x1 (0 : Int32) h H locs ls hw (lv_sub hl [0, 1] rfl)
set_option maxHeartbeats 4000000 in
set_option maxRecDepth 100000 in
theorem w_Mo_open_128 {p : Program} {l : Launch} {e : Env} {s : State} {m : MethodId} {args : Array Value} {below : List Frame} {meth : Method} {c : Code} {D : va_G} {A : Nat → Prop} {ad : Nat → Nat} {ca : Nat → ClassId} (o : z_Sg) (C0 : z_cx z_RMo b_Mo_open 2 none D (z_Mt ca) A p s m args meth c) (q : z_Sg) (x1 : Int32) (h : k_Mo_open_128 x1 q = some o) : ∀ (H : Heap) (locs : List Loc) (ls : Array Slot), z_wd D (z_M ad ca q) A s H locs → lv_has ls 2 [(0, .ref (ad 0)), (1, .int x1)] → W p l e (z_rm 5 127) s m args below meth c H locs 0 0 (z_qv below D (z_Mt ca) (z_M ad ca o) A s args) (F0 m 128 ls []) := by
  obtain ⟨hx, hb, hr, hlk, hml, hown, hts, hK, hA⟩ := id C0
  intro H locs ls hw hl
  refine lv_aload_n hx hb d_Mo_open_128 rfl (lv_at hl 0 rfl) ?_
  refine lv_iload_n hx hb d_Mo_open_129 rfl (lv_at hl 1 rfl) ?_
  refine lv_bipush (v := (15 : Int32)) hx hb d_Mo_open_130 (by decide) ?_
  refine lv_icmp_ne (tgt := 147) hx hb d_Mo_open_132 (by decide) (fun c7 => ?_) (fun c7 => ?_)
  · have h := ok_f h c7
    exact w_Mo_open_147 o C0 q x1 h H locs ls hw (lv_sub hl [0, 1] rfl)
  · have h := ok_t h c7
    refine lv_aload_n hx hb d_Mo_open_135 rfl (lv_at hl 0 rfl) ?_
    refine gfM_0_refused C0 hw fl_Mo_28 d_Mo_open_136 ?_
    refine lv_iconst (v := (-1 : Int32)) hx hb d_Mo_open_139 (by decide) ?_
    refine lv_icmp_ne (tgt := 147) hx hb d_Mo_open_140 (by decide) (fun c13 => ?_) (fun c13 => ?_)
    · have h := ok_f h c13
      exact w_Mo_open_147 o C0 q x1 h H locs ls hw (lv_sub hl [0, 1] rfl)
    · have h := ok_t h c13
      refine lv_iconst (v := (1 : Int32)) hx hb d_Mo_open_143 (by decide) ?_
      refine lv_goto (tgt := 148) hx hb d_Mo_open_144 (by decide) ?_
      exact w_Mo_open_148 o C0 q x1 (1 : Int32) h H locs ls hw (lv_sub hl [0, 1] rfl)
set_option maxHeartbeats 4000000 in
set_option maxRecDepth 100000 in
theorem w_Mo_open_120 {p : Program} {l : Launch} {e : Env} {s : State} {m : MethodId} {args : Array Value} {below : List Frame} {meth : Method} {c : Code} {D : va_G} {A : Nat → Prop} {ad : Nat → Nat} {ca : Nat → ClassId} (o : z_Sg) (C0 : z_cx z_RMo b_Mo_open 2 none D (z_Mt ca) A p s m args meth c) (q : z_Sg) (ih25 : Int32 × z_Sg → Option z_Sg) (hi25 : ∀ a : Int32 × z_Sg, ih25 a = some o → ∀ (H : Heap) (locs : List Loc) (ls : Array Slot), z_wd D (z_M ad ca a.2) A s H locs → lv_has ls 2 [(0, .ref (ad 0)), (1, .int a.1)] → W p l e (z_rm 5 127) s m args below meth c H locs 0 0 (z_qv below D (z_Mt ca) (z_M ad ca o) A s args) (F0 m 25 ls [])) (h : k_Mo_open_120 ih25 q = some o) : ∀ (H : Heap) (locs : List Loc) (ls : Array Slot), z_wd D (z_M ad ca q) A s H locs → lv_has ls 2 [(0, .ref (ad 0))] → W p l e (z_rm 5 127) s m args below meth c H locs 0 0 (z_qv below D (z_Mt ca) (z_M ad ca o) A s args) (F0 m 120 ls []) := by
  obtain ⟨hx, hb, hr, hlk, hml, hown, hts, hK, hA⟩ := id C0
  intro H locs ls hw hl
  refine lv_aload_n hx hb d_Mo_open_120 rfl (lv_at hl 0 rfl) ?_
  obtain ⟨r21, er21, h⟩ := ok_b h
  refine z_vi (rest := []) C0 hw (c_Mo_fetch q r21 er21) mw_Mo_fetch ml_Mo_114 0 rfl ⟨Nat.le_of_ble_eq_true rfl, Nat.le_of_ble_eq_true rfl⟩ ⟨Nat.le_refl 0, Nat.le_refl 0⟩ rfl hl.1 rfl (Nat.le_of_ble_eq_true rfl) d_Mo_open_121 (fun H locs hw => ?_)
  refine lv_istore_n (lv' := [(1, .int r21.1), (0, .ref (ad 0))]) hx hb d_Mo_open_124 rfl hl (by decide) rfl (fun ls hl => ?_)
  refine lv_goto (tgt := 25) hx hb d_Mo_open_125 (by decide) ?_
  exact hi25 (r21.1, r21.2) h H locs ls hw (lv_sub hl [1, 0] rfl)
set_option maxHeartbeats 4000000 in
set_option maxRecDepth 100000 in
theorem w_Mo_open_105 {p : Program} {l : Launch} {e : Env} {s : State} {m : MethodId} {args : Array Value} {below : List Frame} {meth : Method} {c : Code} {D : va_G} {A : Nat → Prop} {ad : Nat → Nat} {ca : Nat → ClassId} (o : z_Sg) (C0 : z_cx z_RMo b_Mo_open 2 none D (z_Mt ca) A p s m args meth c) (q : z_Sg) (ih25 : Int32 × z_Sg → Option z_Sg) (hi25 : ∀ a : Int32 × z_Sg, ih25 a = some o → ∀ (H : Heap) (locs : List Loc) (ls : Array Slot), z_wd D (z_M ad ca a.2) A s H locs → lv_has ls 2 [(0, .ref (ad 0)), (1, .int a.1)] → W p l e (z_rm 5 127) s m args below meth c H locs 0 0 (z_qv below D (z_Mt ca) (z_M ad ca o) A s args) (F0 m 25 ls [])) (x1 : Int32) (t1 : Int32) (h : k_Mo_open_105 ih25 x1 t1 q = some o) : ∀ (H : Heap) (locs : List Loc) (ls : Array Slot), z_wd D (z_M ad ca q) A s H locs → lv_has ls 2 [(0, .ref (ad 0)), (1, .int x1)] → W p l e (z_rm 5 127) s m args below meth c H locs 0 0 (z_qv below D (z_Mt ca) (z_M ad ca o) A s args) (F0 m 105 ls [.int t1, .ref (ad 0)]) := by
  obtain ⟨hx, hb, hr, hlk, hml, hown, hts, hK, hA⟩ := id C0
  intro H locs ls hw hl
  obtain ⟨b18, h⟩ := ok_G h
  refine pfM_0_small C0 hw b18 fl_Mo_127 d_Mo_open_105 (fun H locs hw => ?_)
  obtain ⟨q19, eq19, h⟩ := ok_n h
  rw [← eq19] at hw
  refine lv_iload_n hx hb d_Mo_open_108 rfl (lv_at hl 1 rfl) ?_
  refine lv_sipush (v := (240 : Int32)) hx hb d_Mo_open_109 (by decide) ?_
  refine lv_icmp_le (tgt := 120) hx hb d_Mo_open_112 (by decide) (fun c20 => ?_) (fun c20 => ?_)
  · have h := ok_t h c20
    exact w_Mo_open_120 o C0 q19 ih25 hi25 h H locs ls hw (lv_sub hl [0] rfl)
  · have h := ok_f h c20
    refine lv_aload_n hx hb d_Mo_open_115 rfl (lv_at hl 0 rfl) ?_
    refine lv_iload_n hx hb d_Mo_open_116 rfl (lv_at hl 1 rfl) ?_
    refine pfM_0_repeat C0 hw fl_Mo_124 d_Mo_open_117 (fun H locs hw => ?_)
    obtain ⟨q22, eq22, h⟩ := ok_n h
    rw [← eq22] at hw
    exact w_Mo_open_120 o C0 q22 ih25 hi25 h H locs ls hw (lv_sub hl [0] rfl)
set_option maxHeartbeats 4000000 in
set_option maxRecDepth 100000 in
theorem w_Mo_open_100 {p : Program} {l : Launch} {e : Env} {s : State} {m : MethodId} {args : Array Value} {below : List Frame} {meth : Method} {c : Code} {D : va_G} {A : Nat → Prop} {ad : Nat → Nat} {ca : Nat → ClassId} (o : z_Sg) (C0 : z_cx z_RMo b_Mo_open 2 none D (z_Mt ca) A p s m args meth c) (q : z_Sg) (ih25 : Int32 × z_Sg → Option z_Sg) (hi25 : ∀ a : Int32 × z_Sg, ih25 a = some o → ∀ (H : Heap) (locs : List Loc) (ls : Array Slot), z_wd D (z_M ad ca a.2) A s H locs → lv_has ls 2 [(0, .ref (ad 0)), (1, .int a.1)] → W p l e (z_rm 5 127) s m args below meth c H locs 0 0 (z_qv below D (z_Mt ca) (z_M ad ca o) A s args) (F0 m 25 ls [])) (x1 : Int32) (h : k_Mo_open_100 ih25 x1 q = some o) : ∀ (H : Heap) (locs : List Loc) (ls : Array Slot), z_wd D (z_M ad ca q) A s H locs → lv_has ls 2 [(0, .ref (ad 0)), (1, .int x1)] → W p l e (z_rm 5 127) s m args below meth c H locs 0 0 (z_qv below D (z_Mt ca) (z_M ad ca o) A s args) (F0 m 100 ls [.ref (ad 0)]) := by
  obtain ⟨hx, hb, hr, hlk, hml, hown, hts, hK, hA⟩ := id C0
  intro H locs ls hw hl
  refine lv_iconst (v := (1 : Int32)) hx hb d_Mo_open_100 (by decide) ?_
  refine lv_goto (tgt := 105) hx hb d_Mo_open_101 (by decide) ?_
  exact w_Mo_open_105 o C0 q ih25 hi25 x1 (1 : Int32) h H locs ls hw (lv_sub hl [0, 1] rfl)
set_option maxHeartbeats 4000000 in
set_option maxRecDepth 100000 in
theorem w_Mo_open_83 {p : Program} {l : Launch} {e : Env} {s : State} {m : MethodId} {args : Array Value} {below : List Frame} {meth : Method} {c : Code} {D : va_G} {A : Nat → Prop} {ad : Nat → Nat} {ca : Nat → ClassId} (o : z_Sg) (C0 : z_cx z_RMo b_Mo_open 2 none D (z_Mt ca) A p s m args meth c) (q : z_Sg) (ih25 : Int32 × z_Sg → Option z_Sg) (hi25 : ∀ a : Int32 × z_Sg, ih25 a = some o → ∀ (H : Heap) (locs : List Loc) (ls : Array Slot), z_wd D (z_M ad ca a.2) A s H locs → lv_has ls 2 [(0, .ref (ad 0)), (1, .int a.1)] → W p l e (z_rm 5 127) s m args below meth c H locs 0 0 (z_qv below D (z_Mt ca) (z_M ad ca o) A s args) (F0 m 25 ls [])) (x1 : Int32) (t1 : Int32) (h : k_Mo_open_83 ih25 x1 t1 q = some o) : ∀ (H : Heap) (locs : List Loc) (ls : Array Slot), z_wd D (z_M ad ca q) A s H locs → lv_has ls 2 [(0, .ref (ad 0)), (1, .int x1)] → W p l e (z_rm 5 127) s m args below meth c H locs 0 0 (z_qv below D (z_Mt ca) (z_M ad ca o) A s args) (F0 m 83 ls [.int t1, .ref (ad 0)]) := by
  obtain ⟨hx, hb, hr, hlk, hml, hown, hts, hK, hA⟩ := id C0
  intro H locs ls hw hl
  refine pfM_0_rex C0 hw fl_Mo_121 d_Mo_open_83 (fun H locs hw => ?_)
  obtain ⟨q16, eq16, h⟩ := ok_n h
  rw [← eq16] at hw
  refine lv_aload_n hx hb d_Mo_open_86 rfl (lv_at hl 0 rfl) ?_
  refine lv_aload_n hx hb d_Mo_open_87 rfl (lv_at hl 0 rfl) ?_
  refine gfM_0_small C0 hw fl_Mo_127 d_Mo_open_88 ?_
  refine lv_if_ne (tgt := 100) hx hb d_Mo_open_91 (by decide) (fun c17 => ?_) (fun c17 => ?_)
  · have h := ok_f h c17
    exact w_Mo_open_100 o C0 q16 ih25 hi25 x1 h H locs ls hw (lv_sub hl [0, 1] rfl)
  · have h := ok_t h c17
    refine lv_iload_n hx hb d_Mo_open_94 rfl (lv_at hl 1 rfl) ?_
    refine lv_bipush (v := (102 : Int32)) hx hb d_Mo_open_95 (by decide) ?_
    refine lv_icmp_ne (tgt := 104) hx hb d_Mo_open_97 (by decide) (fun c23 => ?_) (fun c23 => ?_)
    · have h := ok_f h c23
      refine lv_iconst (v := (0 : Int32)) hx hb d_Mo_open_104 (by decide) ?_
      exact w_Mo_open_105 o C0 q16 ih25 hi25 x1 (0 : Int32) h H locs ls hw (lv_sub hl [0, 1] rfl)
    · have h := ok_t h c23
      exact w_Mo_open_100 o C0 q16 ih25 hi25 x1 h H locs ls hw (lv_sub hl [0, 1] rfl)
set_option maxHeartbeats 4000000 in
set_option maxRecDepth 100000 in
theorem w_Mo_open_82 {p : Program} {l : Launch} {e : Env} {s : State} {m : MethodId} {args : Array Value} {below : List Frame} {meth : Method} {c : Code} {D : va_G} {A : Nat → Prop} {ad : Nat → Nat} {ca : Nat → ClassId} (o : z_Sg) (C0 : z_cx z_RMo b_Mo_open 2 none D (z_Mt ca) A p s m args meth c) (q : z_Sg) (ih25 : Int32 × z_Sg → Option z_Sg) (hi25 : ∀ a : Int32 × z_Sg, ih25 a = some o → ∀ (H : Heap) (locs : List Loc) (ls : Array Slot), z_wd D (z_M ad ca a.2) A s H locs → lv_has ls 2 [(0, .ref (ad 0)), (1, .int a.1)] → W p l e (z_rm 5 127) s m args below meth c H locs 0 0 (z_qv below D (z_Mt ca) (z_M ad ca o) A s args) (F0 m 25 ls [])) (x1 : Int32) (h : k_Mo_open_82 ih25 x1 q = some o) : ∀ (H : Heap) (locs : List Loc) (ls : Array Slot), z_wd D (z_M ad ca q) A s H locs → lv_has ls 2 [(0, .ref (ad 0)), (1, .int x1)] → W p l e (z_rm 5 127) s m args below meth c H locs 0 0 (z_qv below D (z_Mt ca) (z_M ad ca o) A s args) (F0 m 82 ls [.ref (ad 0)]) := by
  obtain ⟨hx, hb, hr, hlk, hml, hown, hts, hK, hA⟩ := id C0
  intro H locs ls hw hl
  refine lv_iconst (v := (0 : Int32)) hx hb d_Mo_open_82 (by decide) ?_
  exact w_Mo_open_83 o C0 q ih25 hi25 x1 (0 : Int32) h H locs ls hw (lv_sub hl [0, 1] rfl)
set_option maxHeartbeats 4000000 in
set_option maxRecDepth 100000 in
theorem w_Mo_open_65 {p : Program} {l : Launch} {e : Env} {s : State} {m : MethodId} {args : Array Value} {below : List Frame} {meth : Method} {c : Code} {D : va_G} {A : Nat → Prop} {ad : Nat → Nat} {ca : Nat → ClassId} (o : z_Sg) (C0 : z_cx z_RMo b_Mo_open 2 none D (z_Mt ca) A p s m args meth c) (q : z_Sg) (ih25 : Int32 × z_Sg → Option z_Sg) (hi25 : ∀ a : Int32 × z_Sg, ih25 a = some o → ∀ (H : Heap) (locs : List Loc) (ls : Array Slot), z_wd D (z_M ad ca a.2) A s H locs → lv_has ls 2 [(0, .ref (ad 0)), (1, .int a.1)] → W p l e (z_rm 5 127) s m args below meth c H locs 0 0 (z_qv below D (z_Mt ca) (z_M ad ca o) A s args) (F0 m 25 ls [])) (x1 : Int32) (h : k_Mo_open_65 ih25 x1 q = some o) : ∀ (H : Heap) (locs : List Loc) (ls : Array Slot), z_wd D (z_M ad ca q) A s H locs → lv_has ls 2 [(0, .ref (ad 0)), (1, .int x1)] → W p l e (z_rm 5 127) s m args below meth c H locs 0 0 (z_qv below D (z_Mt ca) (z_M ad ca o) A s args) (F0 m 65 ls []) := by
  obtain ⟨hx, hb, hr, hlk, hml, hown, hts, hK, hA⟩ := id C0
  intro H locs ls hw hl
  refine lv_aload_n hx hb d_Mo_open_65 rfl (lv_at hl 0 rfl) ?_
  refine lv_iload_n hx hb d_Mo_open_66 rfl (lv_at hl 1 rfl) ?_
  refine lv_bipush (v := (64 : Int32)) hx hb d_Mo_open_67 (by decide) ?_
  refine lv_icmp_lt (tgt := 82) hx hb d_Mo_open_69 (by decide) (fun c15 => ?_) (fun c15 => ?_)
  · have h := ok_t h c15
    exact w_Mo_open_82 o C0 q ih25 hi25 x1 h H locs ls hw (lv_sub hl [0, 1] rfl)
  · have h := ok_f h c15
    refine lv_iload_n hx hb d_Mo_open_72 rfl (lv_at hl 1 rfl) ?_
    refine lv_bipush (v := (79 : Int32)) hx hb d_Mo_open_73 (by decide) ?_
    refine lv_icmp_gt (tgt := 82) hx hb d_Mo_open_75 (by decide) (fun c24 => ?_) (fun c24 => ?_)
    · have h := ok_t h c24
      exact w_Mo_open_82 o C0 q ih25 hi25 x1 h H locs ls hw (lv_sub hl [0, 1] rfl)
    · have h := ok_f h c24
      refine lv_iload_n hx hb d_Mo_open_78 rfl (lv_at hl 1 rfl) ?_
      refine lv_goto (tgt := 83) hx hb d_Mo_open_79 (by decide) ?_
      exact w_Mo_open_83 o C0 q ih25 hi25 x1 x1 h H locs ls hw (lv_sub hl [0, 1] rfl)
set_option maxHeartbeats 4000000 in
set_option maxRecDepth 100000 in
theorem wb_Mo_open_25 {p : Program} {l : Launch} {e : Env} {s : State} {m : MethodId} {args : Array Value} {below : List Frame} {meth : Method} {c : Code} {D : va_G} {A : Nat → Prop} {ad : Nat → Nat} {ca : Nat → ClassId} (o : z_Sg) (C0 : z_cx z_RMo b_Mo_open 2 none D (z_Mt ca) A p s m args meth c) (q : z_Sg) (ih25 : Int32 × z_Sg → Option z_Sg) (hi25 : ∀ a : Int32 × z_Sg, ih25 a = some o → ∀ (H : Heap) (locs : List Loc) (ls : Array Slot), z_wd D (z_M ad ca a.2) A s H locs → lv_has ls 2 [(0, .ref (ad 0)), (1, .int a.1)] → W p l e (z_rm 5 127) s m args below meth c H locs 0 0 (z_qv below D (z_Mt ca) (z_M ad ca o) A s args) (F0 m 25 ls [])) (x1 : Int32) (h : kb_Mo_open_25 ih25 x1 q = some o) : ∀ (H : Heap) (locs : List Loc) (ls : Array Slot), z_wd D (z_M ad ca q) A s H locs → lv_has ls 2 [(0, .ref (ad 0)), (1, .int x1)] → W p l e (z_rm 5 127) s m args below meth c H locs 0 0 (z_qv below D (z_Mt ca) (z_M ad ca o) A s args) (F0 m 25 ls []) := by
  obtain ⟨hx, hb, hr, hlk, hml, hown, hts, hK, hA⟩ := id C0
  intro H locs ls hw hl
  refine lv_aload_n hx hb d_Mo_open_25 rfl (lv_at hl 0 rfl) ?_
  refine gfM_0_refused C0 hw fl_Mo_28 d_Mo_open_26 ?_
  refine lv_iconst (v := (-1 : Int32)) hx hb d_Mo_open_29 (by decide) ?_
  refine lv_icmp_ne (tgt := 128) hx hb d_Mo_open_30 (by decide) (fun c6 => ?_) (fun c6 => ?_)
  · have h := ok_f h c6
    exact w_Mo_open_128 o C0 q x1 h H locs ls hw (lv_sub hl [0, 1] rfl)
  · have h := ok_t h c6
    refine lv_iload_n hx hb d_Mo_open_33 rfl (lv_at hl 1 rfl) ?_
    refine lv_bipush (v := (102 : Int32)) hx hb d_Mo_open_34 (by decide) ?_
    refine lv_icmp_eq (tgt := 65) hx hb d_Mo_open_36 (by decide) (fun c14 => ?_) (fun c14 => ?_)
    · have h := ok_t h c14
      exact w_Mo_open_65 o C0 q ih25 hi25 x1 h H locs ls hw (lv_sub hl [0, 1] rfl)
    · have h := ok_f h c14
      refine lv_iload_n hx hb d_Mo_open_39 rfl (lv_at hl 1 rfl) ?_
      refine lv_sipush (v := (242 : Int32)) hx hb d_Mo_open_40 (by decide) ?_
      refine lv_icmp_eq (tgt := 65) hx hb d_Mo_open_43 (by decide) (fun c25 => ?_) (fun c25 => ?_)
      · have h := ok_t h c25
        exact w_Mo_open_65 o C0 q ih25 hi25 x1 h H locs ls hw (lv_sub hl [0, 1] rfl)
      · have h := ok_f h c25
        refine lv_iload_n hx hb d_Mo_open_46 rfl (lv_at hl 1 rfl) ?_
        refine lv_sipush (v := (243 : Int32)) hx hb d_Mo_open_47 (by decide) ?_
        refine lv_icmp_eq (tgt := 65) hx hb d_Mo_open_50 (by decide) (fun c26 => ?_) (fun c26 => ?_)
        · have h := ok_t h c26
          exact w_Mo_open_65 o C0 q ih25 hi25 x1 h H locs ls hw (lv_sub hl [0, 1] rfl)
        · have h := ok_f h c26
          refine lv_iload_n hx hb d_Mo_open_53 rfl (lv_at hl 1 rfl) ?_
          refine lv_bipush (v := (64 : Int32)) hx hb d_Mo_open_54 (by decide) ?_
          refine lv_icmp_lt (tgt := 128) hx hb d_Mo_open_56 (by decide) (fun c27 => ?_) (fun c27 => ?_)
          · have h := ok_t h c27
            exact w_Mo_open_128 o C0 q x1 h H locs ls hw (lv_sub hl [0, 1] rfl)
          · have h := ok_f h c27
            refine lv_iload_n hx hb d_Mo_open_59 rfl (lv_at hl 1 rfl) ?_
            refine lv_bipush (v := (79 : Int32)) hx hb d_Mo_open_60 (by decide) ?_
            refine lv_icmp_gt (tgt := 128) hx hb d_Mo_open_62 (by decide) (fun c28 => ?_) (fun c28 => ?_)
            · have h := ok_t h c28
              exact w_Mo_open_128 o C0 q x1 h H locs ls hw (lv_sub hl [0, 1] rfl)
            · have h := ok_f h c28
              exact w_Mo_open_65 o C0 q ih25 hi25 x1 h H locs ls hw (lv_sub hl [0, 1] rfl)
theorem w_Mo_open_25 {p : Program} {l : Launch} {e : Env} {s : State} {m : MethodId} {args : Array Value} {below : List Frame} {meth : Method} {c : Code} {D : va_G} {A : Nat → Prop} {ad : Nat → Nat} {ca : Nat → ClassId} (o : z_Sg) (C0 : z_cx z_RMo b_Mo_open 2 none D (z_Mt ca) A p s m args meth c) (q : z_Sg) (x1 : Int32) (h : k_Mo_open_25 x1 q = some o) : ∀ (H : Heap) (locs : List Loc) (ls : Array Slot), z_wd D (z_M ad ca q) A s H locs → lv_has ls 2 [(0, .ref (ad 0)), (1, .int x1)] → W p l e (z_rm 5 127) s m args below meth c H locs 0 0 (z_qv below D (z_Mt ca) (z_M ad ca o) A s args) (F0 m 25 ls []) := by
  have key : ∀ (n : Nat) (a : Int32 × z_Sg), z_lo (fun ih25 a => kb_Mo_open_25 ih25 a.1 a.2) n a = some o → ∀ (H : Heap) (locs : List Loc) (ls : Array Slot), z_wd D (z_M ad ca a.2) A s H locs → lv_has ls 2 [(0, .ref (ad 0)), (1, .int a.1)] → W p l e (z_rm 5 127) s m args below meth c H locs 0 0 (z_qv below D (z_Mt ca) (z_M ad ca o) A s args) (F0 m 25 ls []) := by
    intro n
    induction n with
    | zero => intro a h; cases h
    | succ n ih => exact fun a h => wb_Mo_open_25 o C0 a.2 (z_lo (fun ih25 a => kb_Mo_open_25 ih25 a.1 a.2) n) ih a.1 h
  exact key 2000 (x1, q) h
set_option maxHeartbeats 4000000 in
set_option maxRecDepth 100000 in
theorem c_Mo_open {l : Launch} {D : va_G} {ad : Nat → Nat} {ca : Nat → ClassId} (q : z_Sg) (o : z_Sg) (h : f_Mo_open q = some o) : z_cv l y_Mo_open b_Mo_open 2 none 5 127 D (z_Mt ca) (z_M ad ca q) (z_M ad ca o) [.ref (ad 0)] := by
  refine z_cv_of (own := z_RMo) (by decide) rfl ?_
  intro p e s m below meth c A C0 hw
  obtain ⟨hx, hb, hr, hlk, hml, hown, hts, hK, hA⟩ := id C0
  generalize hH : s.heap = H at hw ⊢
  generalize hlo : ([] : List Loc) = locs at hw ⊢
  refine z_entry (lv := [(0, .ref (ad 0))]) (Nat.le_of_ble_eq_true rfl) rfl (fun ls hl => ?_)
  unfold f_Mo_open at h
  refine lv_aload_n hx hb d_Mo_open_0 rfl (lv_at hl 0 rfl) ?_
  refine lv_iconst (v := (0 : Int32)) hx hb d_Mo_open_1 (by decide) ?_
  refine pfM_0_length C0 hw fl_Mo_108 d_Mo_open_2 (fun H locs hw => ?_)
  obtain ⟨q1, eq1, h⟩ := ok_n h
  rw [← eq1] at hw
  refine lv_aload_n hx hb d_Mo_open_5 rfl (lv_at hl 0 rfl) ?_
  refine lv_iconst (v := (0 : Int32)) hx hb d_Mo_open_6 (by decide) ?_
  refine pfM_0_rex C0 hw fl_Mo_121 d_Mo_open_7 (fun H locs hw => ?_)
  obtain ⟨q2, eq2, h⟩ := ok_n h
  rw [← eq2] at hw
  refine lv_aload_n hx hb d_Mo_open_10 rfl (lv_at hl 0 rfl) ?_
  refine lv_iconst (v := (0 : Int32)) hx hb d_Mo_open_11 (by decide) ?_
  refine pfM_0_repeat C0 hw fl_Mo_124 d_Mo_open_12 (fun H locs hw => ?_)
  obtain ⟨q3, eq3, h⟩ := ok_n h
  rw [← eq3] at hw
  refine lv_aload_n hx hb d_Mo_open_15 rfl (lv_at hl 0 rfl) ?_
  refine lv_iconst (v := (0 : Int32)) hx hb d_Mo_open_16 (by decide) ?_
  refine pfM_0_small C0 hw (Or.inl rfl) fl_Mo_127 d_Mo_open_17 (fun H locs hw => ?_)
  obtain ⟨q4, eq4, h⟩ := ok_n h
  rw [← eq4] at hw
  refine lv_aload_n hx hb d_Mo_open_20 rfl (lv_at hl 0 rfl) ?_
  obtain ⟨r5, er5, h⟩ := ok_b h
  refine z_vi (rest := []) C0 hw (c_Mo_fetch q4 r5 er5) mw_Mo_fetch ml_Mo_114 0 rfl ⟨Nat.le_of_ble_eq_true rfl, Nat.le_of_ble_eq_true rfl⟩ ⟨Nat.le_refl 0, Nat.le_refl 0⟩ rfl hl.1 rfl (Nat.le_of_ble_eq_true rfl) d_Mo_open_21 (fun H locs hw => ?_)
  refine lv_istore_n (lv' := [(1, .int r5.1), (0, .ref (ad 0))]) hx hb d_Mo_open_24 rfl hl (by decide) rfl (fun ls hl => ?_)
  exact w_Mo_open_25 o C0 r5.2 r5.1 h H locs ls hw (lv_sub hl [1, 0] rfl)
def k_Mo_wide_27 (t0 : Int32) (q : z_Sg) : Option Int32 :=
  some t0
def f_Mo_wide (q : z_Sg) : Option Int32 :=
  if ((z_gI q 10) &&& (8 : Int32)) = 0 then (if (z_gI q 16) = 0 then (k_Mo_wide_27 (4 : Int32) q) else (k_Mo_wide_27 (2 : Int32) q)) else (k_Mo_wide_27 (8 : Int32) q)
set_option maxHeartbeats 4000000 in
set_option maxRecDepth 100000 in
theorem w_Mo_wide_27 {p : Program} {l : Launch} {e : Env} {s : State} {m : MethodId} {args : Array Value} {below : List Frame} {meth : Method} {c : Code} {D : va_G} {A : Nat → Prop} {ad : Nat → Nat} {ca : Nat → ClassId} (o : Int32) (C0 : z_cx z_RMo b_Mo_wide 1 (some .int) D (z_Mt ca) A p s m args meth c) (q : z_Sg) (t0 : Int32) (h : k_Mo_wide_27 t0 q = some o) : ∀ (H : Heap) (locs : List Loc) (ls : Array Slot), z_wd D (z_M ad ca q) A s H locs → lv_has ls 1 [] → W p l e (z_rm 0 0) s m args below meth c H locs 0 0 (z_qi below D (z_Mt ca) (z_M ad ca q) A s args o) (F0 m 27 ls [.int t0]) := by
  obtain ⟨hx, hb, hr, hlk, hml, hown, hts, hK, hA⟩ := id C0
  intro H locs ls hw hl
  have ho := Option.some.inj h
  subst ho
  exact z_rti C0 hw d_Mo_wide_27
set_option maxHeartbeats 4000000 in
set_option maxRecDepth 100000 in
theorem c_Mo_wide {l : Launch} {D : va_G} {ad : Nat → Nat} {ca : Nat → ClassId} (q : z_Sg) (o : Int32) (h : f_Mo_wide q = some o) : z_ci l y_Mo_wide b_Mo_wide 1 (some .int) 0 0 D (z_Mt ca) (z_M ad ca q) (z_M ad ca q) [.ref (ad 0)] o := by
  refine z_ci_of (own := z_RMo) (by decide) rfl ?_
  intro p e s m below meth c A C0 hw
  obtain ⟨hx, hb, hr, hlk, hml, hown, hts, hK, hA⟩ := id C0
  generalize hH : s.heap = H at hw ⊢
  generalize hlo : ([] : List Loc) = locs at hw ⊢
  refine z_entry (lv := [(0, .ref (ad 0))]) (Nat.le_of_ble_eq_true rfl) rfl (fun ls hl => ?_)
  unfold f_Mo_wide at h
  refine lv_aload_n hx hb d_Mo_wide_0 rfl (lv_at hl 0 rfl) ?_
  refine gfM_0_rex C0 hw fl_Mo_121 d_Mo_wide_1 ?_
  refine lv_bipush (v := (8 : Int32)) hx hb d_Mo_wide_4 (by decide) ?_
  refine lv_iand hx hb d_Mo_wide_6 ?_
  refine lv_if_eq (tgt := 15) hx hb d_Mo_wide_7 (by decide) (fun c1 => ?_) (fun c1 => ?_)
  · have h := ok_t h c1
    refine lv_aload_n hx hb d_Mo_wide_15 rfl (lv_at hl 0 rfl) ?_
    refine gfM_0_small C0 hw fl_Mo_127 d_Mo_wide_16 ?_
    refine lv_if_eq (tgt := 26) hx hb d_Mo_wide_19 (by decide) (fun c2 => ?_) (fun c2 => ?_)
    · have h := ok_t h c2
      refine lv_iconst (v := (4 : Int32)) hx hb d_Mo_wide_26 (by decide) ?_
      exact w_Mo_wide_27 o C0 q (4 : Int32) h H locs ls hw (lv_sub hl [] rfl)
    · have h := ok_f h c2
      refine lv_iconst (v := (2 : Int32)) hx hb d_Mo_wide_22 (by decide) ?_
      refine lv_goto (tgt := 27) hx hb d_Mo_wide_23 (by decide) ?_
      exact w_Mo_wide_27 o C0 q (2 : Int32) h H locs ls hw (lv_sub hl [] rfl)
  · have h := ok_f h c1
    refine lv_bipush (v := (8 : Int32)) hx hb d_Mo_wide_10 (by decide) ?_
    refine lv_goto (tgt := 27) hx hb d_Mo_wide_12 (by decide) ?_
    exact w_Mo_wide_27 o C0 q (8 : Int32) h H locs ls hw (lv_sub hl [] rfl)
def f_Mo_takeMod (q : z_Sg) : Option z_Sg :=
  (f_Mo_fetch q).bind (fun r1 => z_nm (z_sI r1.2 7 (r1.1 / (64 : Int32))) (fun q2 => z_nm (z_sI q2 8 ((r1.1 / (8 : Int32)) - (r1.1 / (8 : Int32)) / (8 : Int32) * (8 : Int32))) (fun q3 => z_nm (z_sI q3 9 (r1.1 - r1.1 / (8 : Int32) * (8 : Int32))) (fun q4 => some q4))))
set_option maxHeartbeats 4000000 in
set_option maxRecDepth 100000 in
theorem c_Mo_takeMod {l : Launch} {D : va_G} {ad : Nat → Nat} {ca : Nat → ClassId} (q : z_Sg) (o : z_Sg) (h : f_Mo_takeMod q = some o) : z_cv l y_Mo_takeMod b_Mo_takeMod 2 none 5 127 D (z_Mt ca) (z_M ad ca q) (z_M ad ca o) [.ref (ad 0)] := by
  refine z_cv_of (own := z_RMo) (by decide) rfl ?_
  intro p e s m below meth c A C0 hw
  obtain ⟨hx, hb, hr, hlk, hml, hown, hts, hK, hA⟩ := id C0
  generalize hH : s.heap = H at hw ⊢
  generalize hlo : ([] : List Loc) = locs at hw ⊢
  refine z_entry (lv := [(0, .ref (ad 0))]) (Nat.le_of_ble_eq_true rfl) rfl (fun ls hl => ?_)
  unfold f_Mo_takeMod at h
  refine lv_aload_n hx hb d_Mo_takeMod_0 rfl (lv_at hl 0 rfl) ?_
  obtain ⟨r1, er1, h⟩ := ok_b h
  refine z_vi (rest := []) C0 hw (c_Mo_fetch q r1 er1) mw_Mo_fetch ml_Mo_114 0 rfl ⟨Nat.le_of_ble_eq_true rfl, Nat.le_of_ble_eq_true rfl⟩ ⟨Nat.le_refl 0, Nat.le_refl 0⟩ rfl hl.1 rfl (Nat.le_of_ble_eq_true rfl) d_Mo_takeMod_1 (fun H locs hw => ?_)
  refine lv_istore_n (lv' := [(1, .int r1.1), (0, .ref (ad 0))]) hx hb d_Mo_takeMod_4 rfl hl (by decide) rfl (fun ls hl => ?_)
  refine lv_aload_n hx hb d_Mo_takeMod_5 rfl (lv_at hl 1 rfl) ?_
  refine lv_iload_n hx hb d_Mo_takeMod_6 rfl (lv_at hl 0 rfl) ?_
  refine lv_bipush (v := (64 : Int32)) hx hb d_Mo_takeMod_7 (by decide) ?_
  refine lv_idiv hx hb d_Mo_takeMod_9 (by decide) ?_
  refine pfM_0_mod C0 hw fl_Mo_136 d_Mo_takeMod_10 (fun H locs hw => ?_)
  obtain ⟨q2, eq2, h⟩ := ok_n h
  rw [← eq2] at hw
  refine lv_aload_n hx hb d_Mo_takeMod_13 rfl (lv_at hl 1 rfl) ?_
  refine lv_iload_n hx hb d_Mo_takeMod_14 rfl (lv_at hl 0 rfl) ?_
  refine lv_bipush (v := (8 : Int32)) hx hb d_Mo_takeMod_15 (by decide) ?_
  refine lv_idiv hx hb d_Mo_takeMod_17 (by decide) ?_
  refine lv_bipush (v := (8 : Int32)) hx hb d_Mo_takeMod_18 (by decide) ?_
  refine lv_irem hx hb d_Mo_takeMod_20 (by decide) ?_
  refine pfM_0_reg C0 hw fl_Mo_139 d_Mo_takeMod_21 (fun H locs hw => ?_)
  obtain ⟨q3, eq3, h⟩ := ok_n h
  rw [← eq3] at hw
  refine lv_aload_n hx hb d_Mo_takeMod_24 rfl (lv_at hl 1 rfl) ?_
  refine lv_iload_n hx hb d_Mo_takeMod_25 rfl (lv_at hl 0 rfl) ?_
  refine lv_bipush (v := (8 : Int32)) hx hb d_Mo_takeMod_26 (by decide) ?_
  refine lv_irem hx hb d_Mo_takeMod_28 (by decide) ?_
  refine pfM_0_rm C0 hw fl_Mo_142 d_Mo_takeMod_29 (fun H locs hw => ?_)
  obtain ⟨q4, eq4, h⟩ := ok_n h
  rw [← eq4] at hw
  have ho := Option.some.inj h
  subst ho
  exact z_rtv C0 hw d_Mo_takeMod_32
def k_Mo_plus_15 (t0 : Int32) (q : z_Sg) : Option Int32 :=
  some t0
def f_Mo_plus (x1 : Int32) (q : z_Sg) : Option Int32 :=
  if ((z_gI q 10) &&& x1) = 0 then (k_Mo_plus_15 (0 : Int32) q) else (k_Mo_plus_15 (8 : Int32) q)
set_option maxHeartbeats 4000000 in
set_option maxRecDepth 100000 in
theorem w_Mo_plus_15 {p : Program} {l : Launch} {e : Env} {s : State} {m : MethodId} {args : Array Value} {below : List Frame} {meth : Method} {c : Code} {D : va_G} {A : Nat → Prop} {ad : Nat → Nat} {ca : Nat → ClassId} (o : Int32) (C0 : z_cx z_RMo b_Mo_plus 2 (some .int) D (z_Mt ca) A p s m args meth c) (q : z_Sg) (t0 : Int32) (h : k_Mo_plus_15 t0 q = some o) : ∀ (H : Heap) (locs : List Loc) (ls : Array Slot), z_wd D (z_M ad ca q) A s H locs → lv_has ls 2 [] → W p l e (z_rm 0 0) s m args below meth c H locs 0 0 (z_qi below D (z_Mt ca) (z_M ad ca q) A s args o) (F0 m 15 ls [.int t0]) := by
  obtain ⟨hx, hb, hr, hlk, hml, hown, hts, hK, hA⟩ := id C0
  intro H locs ls hw hl
  have ho := Option.some.inj h
  subst ho
  exact z_rti C0 hw d_Mo_plus_15
set_option maxHeartbeats 4000000 in
set_option maxRecDepth 100000 in
theorem c_Mo_plus {l : Launch} {D : va_G} {ad : Nat → Nat} {ca : Nat → ClassId} (x1 : Int32) (q : z_Sg) (o : Int32) (h : f_Mo_plus x1 q = some o) : z_ci l y_Mo_plus b_Mo_plus 2 (some .int) 0 0 D (z_Mt ca) (z_M ad ca q) (z_M ad ca q) [.ref (ad 0), .int x1] o := by
  refine z_ci_of (own := z_RMo) (by decide) rfl ?_
  intro p e s m below meth c A C0 hw
  obtain ⟨hx, hb, hr, hlk, hml, hown, hts, hK, hA⟩ := id C0
  generalize hH : s.heap = H at hw ⊢
  generalize hlo : ([] : List Loc) = locs at hw ⊢
  refine z_entry (lv := [(0, .ref (ad 0)), (1, .int x1)]) (Nat.le_of_ble_eq_true rfl) rfl (fun ls hl => ?_)
  unfold f_Mo_plus at h
  refine lv_aload_n hx hb d_Mo_plus_0 rfl (lv_at hl 0 rfl) ?_
  refine gfM_0_rex C0 hw fl_Mo_121 d_Mo_plus_1 ?_
  refine lv_iload_n hx hb d_Mo_plus_4 rfl (lv_at hl 1 rfl) ?_
  refine lv_iand hx hb d_Mo_plus_5 ?_
  refine lv_if_eq (tgt := 14) hx hb d_Mo_plus_6 (by decide) (fun c1 => ?_) (fun c1 => ?_)
  · have h := ok_t h c1
    refine lv_iconst (v := (0 : Int32)) hx hb d_Mo_plus_14 (by decide) ?_
    exact w_Mo_plus_15 o C0 q (0 : Int32) h H locs ls hw (lv_sub hl [] rfl)
  · have h := ok_f h c1
    refine lv_bipush (v := (8 : Int32)) hx hb d_Mo_plus_9 (by decide) ?_
    refine lv_goto (tgt := 15) hx hb d_Mo_plus_11 (by decide) ?_
    exact w_Mo_plus_15 o C0 q (8 : Int32) h H locs ls hw (lv_sub hl [] rfl)
def k_Mo_extended_62 (ih30 : Int32 × Int64 × Int32 → Option Int64) (x3 : Int32) (x6 : Int32) (t0 : Int64) (q : z_Sg) : Option Int64 :=
  z_nm (x6 + (1 : Int32)) (fun n5 => ih30 (x3, t0, n5))
def kb_Mo_extended_30 (ih30 : Int32 × Int64 × Int32 → Option Int64) (x3 : Int32) (x4 : Int64) (x6 : Int32) (q : z_Sg) : Option Int64 :=
  if (64 : Int32) ≤ x6 then (some x4) else (if x3 = 0 then (k_Mo_extended_62 ih30 x3 x6 (x4 &&& ((z_lshl (1 : Int64) x6) ^^^ (-1 : Int64))) q) else (k_Mo_extended_62 ih30 x3 x6 (x4 ||| (z_lshl (1 : Int64) x6)) q))
def k_Mo_extended_30 (x3 : Int32) (x4 : Int64) (x6 : Int32) (q : z_Sg) : Option Int64 := z_lo (fun ih30 a => kb_Mo_extended_30 ih30 a.1 a.2.1 a.2.2 q) 2000 (x3, x4, x6)
def k_Mo_extended_20 (x0 : Int64) (x2 : Int32) (t0 : Int32) (q : z_Sg) : Option Int64 :=
  z_nm (((8 : Int32) * x2)) (fun n2 => k_Mo_extended_30 t0 x0 n2 q)
def f_Mo_extended (x0 : Int64) (x2 : Int32) (q : z_Sg) : Option Int64 :=
  if ((z_lushr x0 (((8 : Int32) * x2) - (1 : Int32))) &&& (1 : Int64)) = (1 : Int64) then (k_Mo_extended_20 x0 x2 (1 : Int32) q) else (k_Mo_extended_20 x0 x2 (0 : Int32) q)
set_option maxHeartbeats 4000000 in
set_option maxRecDepth 100000 in
theorem w_Mo_extended_62 {p : Program} {l : Launch} {e : Env} {s : State} {m : MethodId} {args : Array Value} {below : List Frame} {meth : Method} {c : Code} {D : va_G} {A : Nat → Prop} {ad : Nat → Nat} {ca : Nat → ClassId} (o : Int64) (C0 : z_cx z_RMo b_Mo_extended 7 (some .long) D (z_Mt ca) A p s m args meth c) (q : z_Sg) (ih30 : Int32 × Int64 × Int32 → Option Int64) (hi30 : ∀ a : Int32 × Int64 × Int32, ih30 a = some o → ∀ (H : Heap) (locs : List Loc) (ls : Array Slot), z_wd D (z_M ad ca q) A s H locs → lv_has ls 7 [(3, .int a.1), (4, .long a.2.1), (6, .int a.2.2)] → W p l e (z_rm 0 0) s m args below meth c H locs 0 0 (z_ql below D (z_Mt ca) (z_M ad ca q) A s args o) (F0 m 30 ls [])) (x3 : Int32) (x6 : Int32) (t0 : Int64) (h : k_Mo_extended_62 ih30 x3 x6 t0 q = some o) : ∀ (H : Heap) (locs : List Loc) (ls : Array Slot), z_wd D (z_M ad ca q) A s H locs → lv_has ls 7 [(3, .int x3), (6, .int x6)] → W p l e (z_rm 0 0) s m args below meth c H locs 0 0 (z_ql below D (z_Mt ca) (z_M ad ca q) A s args o) (F0 m 62 ls [.long t0]) := by
  obtain ⟨hx, hb, hr, hlk, hml, hown, hts, hK, hA⟩ := id C0
  intro H locs ls hw hl
  refine lv_lstore (lv' := [(4, .long t0), (3, .int x3), (6, .int x6)]) hx hb d_Mo_extended_62 hl (by decide) rfl (fun ls hl => ?_)
  obtain ⟨n5, en5, h⟩ := ok_n h
  refine lv_iinc (v := n5) (lv' := [(6, .int n5), (4, .long t0), (3, .int x3)]) hx hb d_Mo_extended_64 hl (k := 2) rfl (by rw [en5]; rfl) (by decide) rfl (fun ls hl => ?_)
  refine lv_goto (tgt := 30) hx hb d_Mo_extended_67 (by decide) ?_
  exact hi30 (x3, t0, n5) h H locs ls hw (lv_sub hl [2, 1, 0] rfl)
set_option maxHeartbeats 4000000 in
set_option maxRecDepth 100000 in
theorem wb_Mo_extended_30 {p : Program} {l : Launch} {e : Env} {s : State} {m : MethodId} {args : Array Value} {below : List Frame} {meth : Method} {c : Code} {D : va_G} {A : Nat → Prop} {ad : Nat → Nat} {ca : Nat → ClassId} (o : Int64) (C0 : z_cx z_RMo b_Mo_extended 7 (some .long) D (z_Mt ca) A p s m args meth c) (q : z_Sg) (ih30 : Int32 × Int64 × Int32 → Option Int64) (hi30 : ∀ a : Int32 × Int64 × Int32, ih30 a = some o → ∀ (H : Heap) (locs : List Loc) (ls : Array Slot), z_wd D (z_M ad ca q) A s H locs → lv_has ls 7 [(3, .int a.1), (4, .long a.2.1), (6, .int a.2.2)] → W p l e (z_rm 0 0) s m args below meth c H locs 0 0 (z_ql below D (z_Mt ca) (z_M ad ca q) A s args o) (F0 m 30 ls [])) (x3 : Int32) (x4 : Int64) (x6 : Int32) (h : kb_Mo_extended_30 ih30 x3 x4 x6 q = some o) : ∀ (H : Heap) (locs : List Loc) (ls : Array Slot), z_wd D (z_M ad ca q) A s H locs → lv_has ls 7 [(3, .int x3), (4, .long x4), (6, .int x6)] → W p l e (z_rm 0 0) s m args below meth c H locs 0 0 (z_ql below D (z_Mt ca) (z_M ad ca q) A s args o) (F0 m 30 ls []) := by
  obtain ⟨hx, hb, hr, hlk, hml, hown, hts, hK, hA⟩ := id C0
  intro H locs ls hw hl
  refine lv_iload hx hb d_Mo_extended_30 (lv_at hl 2 rfl) ?_
  refine lv_bipush (v := (64 : Int32)) hx hb d_Mo_extended_32 (by decide) ?_
  refine lv_icmp_ge (tgt := 70) hx hb d_Mo_extended_34 (by decide) (fun c3 => ?_) (fun c3 => ?_)
  · have h := ok_t h c3
    refine lv_lload hx hb d_Mo_extended_70 (lv_at hl 1 rfl) ?_
    have ho := Option.some.inj h
    subst ho
    exact z_rtl C0 hw d_Mo_extended_72
  · have h := ok_f h c3
    refine lv_iload_n hx hb d_Mo_extended_37 rfl (lv_at hl 0 rfl) ?_
    refine lv_if_eq (tgt := 51) hx hb d_Mo_extended_38 (by decide) (fun c4 => ?_) (fun c4 => ?_)
    · have h := ok_t h c4
      refine lv_lload hx hb d_Mo_extended_51 (lv_at hl 1 rfl) ?_
      refine lv_lconst (v := (1 : Int64)) hx hb d_Mo_extended_53 (by decide) ?_
      refine lv_iload hx hb d_Mo_extended_54 (lv_at hl 2 rfl) ?_
      refine lv_lshl (v := (z_lshl (1 : Int64) x6)) hx hb d_Mo_extended_56 rfl ?_
      refine lv_ldc2 (own := z_RMo) hx hb hown (hts _ kl_Mo_71) d_Mo_extended_57 ?_
      refine lv_lxor hx hb d_Mo_extended_60 ?_
      refine lv_land hx hb d_Mo_extended_61 ?_
      exact w_Mo_extended_62 o C0 q ih30 hi30 x3 x6 (x4 &&& ((z_lshl (1 : Int64) x6) ^^^ (-1 : Int64))) h H locs ls hw (lv_sub hl [0, 2] rfl)
    · have h := ok_f h c4
      refine lv_lload hx hb d_Mo_extended_41 (lv_at hl 1 rfl) ?_
      refine lv_lconst (v := (1 : Int64)) hx hb d_Mo_extended_43 (by decide) ?_
      refine lv_iload hx hb d_Mo_extended_44 (lv_at hl 2 rfl) ?_
      refine lv_lshl (v := (z_lshl (1 : Int64) x6)) hx hb d_Mo_extended_46 rfl ?_
      refine lv_lor hx hb d_Mo_extended_47 ?_
      refine lv_goto (tgt := 62) hx hb d_Mo_extended_48 (by decide) ?_
      exact w_Mo_extended_62 o C0 q ih30 hi30 x3 x6 (x4 ||| (z_lshl (1 : Int64) x6)) h H locs ls hw (lv_sub hl [0, 2] rfl)
theorem w_Mo_extended_30 {p : Program} {l : Launch} {e : Env} {s : State} {m : MethodId} {args : Array Value} {below : List Frame} {meth : Method} {c : Code} {D : va_G} {A : Nat → Prop} {ad : Nat → Nat} {ca : Nat → ClassId} (o : Int64) (C0 : z_cx z_RMo b_Mo_extended 7 (some .long) D (z_Mt ca) A p s m args meth c) (q : z_Sg) (x3 : Int32) (x4 : Int64) (x6 : Int32) (h : k_Mo_extended_30 x3 x4 x6 q = some o) : ∀ (H : Heap) (locs : List Loc) (ls : Array Slot), z_wd D (z_M ad ca q) A s H locs → lv_has ls 7 [(3, .int x3), (4, .long x4), (6, .int x6)] → W p l e (z_rm 0 0) s m args below meth c H locs 0 0 (z_ql below D (z_Mt ca) (z_M ad ca q) A s args o) (F0 m 30 ls []) := by
  have key : ∀ (n : Nat) (a : Int32 × Int64 × Int32), z_lo (fun ih30 a => kb_Mo_extended_30 ih30 a.1 a.2.1 a.2.2 q) n a = some o → ∀ (H : Heap) (locs : List Loc) (ls : Array Slot), z_wd D (z_M ad ca q) A s H locs → lv_has ls 7 [(3, .int a.1), (4, .long a.2.1), (6, .int a.2.2)] → W p l e (z_rm 0 0) s m args below meth c H locs 0 0 (z_ql below D (z_Mt ca) (z_M ad ca q) A s args o) (F0 m 30 ls []) := by
    intro n
    induction n with
    | zero => intro a h; cases h
    | succ n ih => exact fun a h => wb_Mo_extended_30 o C0 q (z_lo (fun ih30 a => kb_Mo_extended_30 ih30 a.1 a.2.1 a.2.2 q) n) ih a.1 a.2.1 a.2.2 h
  exact key 2000 (x3, x4, x6) h
set_option maxHeartbeats 4000000 in
set_option maxRecDepth 100000 in
theorem w_Mo_extended_20 {p : Program} {l : Launch} {e : Env} {s : State} {m : MethodId} {args : Array Value} {below : List Frame} {meth : Method} {c : Code} {D : va_G} {A : Nat → Prop} {ad : Nat → Nat} {ca : Nat → ClassId} (o : Int64) (C0 : z_cx z_RMo b_Mo_extended 7 (some .long) D (z_Mt ca) A p s m args meth c) (q : z_Sg) (x0 : Int64) (x2 : Int32) (t0 : Int32) (h : k_Mo_extended_20 x0 x2 t0 q = some o) : ∀ (H : Heap) (locs : List Loc) (ls : Array Slot), z_wd D (z_M ad ca q) A s H locs → lv_has ls 7 [(0, .long x0), (2, .int x2)] → W p l e (z_rm 0 0) s m args below meth c H locs 0 0 (z_ql below D (z_Mt ca) (z_M ad ca q) A s args o) (F0 m 20 ls [.int t0]) := by
  obtain ⟨hx, hb, hr, hlk, hml, hown, hts, hK, hA⟩ := id C0
  intro H locs ls hw hl
  refine lv_istore_n (lv' := [(3, .int t0), (0, .long x0), (2, .int x2)]) hx hb d_Mo_extended_20 rfl hl (by decide) rfl (fun ls hl => ?_)
  refine lv_lload_n hx hb d_Mo_extended_21 rfl (lv_at hl 1 rfl) ?_
  refine lv_lstore (lv' := [(4, .long x0), (3, .int t0), (0, .long x0), (2, .int x2)]) hx hb d_Mo_extended_22 hl (by decide) rfl (fun ls hl => ?_)
  refine lv_bipush (v := (8 : Int32)) hx hb d_Mo_extended_24 (by decide) ?_
  refine lv_iload_n hx hb d_Mo_extended_26 rfl (lv_at hl 3 rfl) ?_
  refine lv_imul hx hb d_Mo_extended_27 ?_
  obtain ⟨n2, en2, h⟩ := ok_n h
  refine z_ti en2 ?_
  refine lv_istore (lv' := [(6, .int n2), (4, .long x0), (3, .int t0), (0, .long x0), (2, .int x2)]) hx hb d_Mo_extended_28 hl (by decide) rfl (fun ls hl => ?_)
  exact w_Mo_extended_30 o C0 q t0 x0 n2 h H locs ls hw (lv_sub hl [2, 1, 0] rfl)
set_option maxHeartbeats 4000000 in
set_option maxRecDepth 100000 in
theorem c_Mo_extended {l : Launch} {D : va_G} {ad : Nat → Nat} {ca : Nat → ClassId} (x0 : Int64) (x2 : Int32) (q : z_Sg) (o : Int64) (h : f_Mo_extended x0 x2 q = some o) : z_cl l y_Mo_extended b_Mo_extended 7 (some .long) 0 0 D (z_Mt ca) (z_M ad ca q) (z_M ad ca q) [.long x0, .int x2] o := by
  refine z_cl_of (own := z_RMo) (by decide) rfl ?_
  intro p e s m below meth c A C0 hw
  obtain ⟨hx, hb, hr, hlk, hml, hown, hts, hK, hA⟩ := id C0
  generalize hH : s.heap = H at hw ⊢
  generalize hlo : ([] : List Loc) = locs at hw ⊢
  refine z_entry (lv := [(0, .long x0), (2, .int x2)]) (Nat.le_of_ble_eq_true rfl) rfl (fun ls hl => ?_)
  unfold f_Mo_extended at h
  refine lv_lload_n hx hb d_Mo_extended_0 rfl (lv_at hl 0 rfl) ?_
  refine lv_bipush (v := (8 : Int32)) hx hb d_Mo_extended_1 (by decide) ?_
  refine lv_iload_n hx hb d_Mo_extended_3 rfl (lv_at hl 1 rfl) ?_
  refine lv_imul hx hb d_Mo_extended_4 ?_
  refine lv_iconst (v := (1 : Int32)) hx hb d_Mo_extended_5 (by decide) ?_
  refine lv_isub hx hb d_Mo_extended_6 ?_
  refine lv_lushr (v := (z_lushr x0 (((8 : Int32) * x2) - (1 : Int32)))) hx hb d_Mo_extended_7 rfl ?_
  refine lv_lconst (v := (1 : Int64)) hx hb d_Mo_extended_8 (by decide) ?_
  refine lv_land hx hb d_Mo_extended_9 ?_
  refine lv_lconst (v := (1 : Int64)) hx hb d_Mo_extended_10 (by decide) ?_
  refine W.lcmp hx hb d_Mo_extended_11 ?_
  refine lv_if_ne (tgt := 19) hx hb d_Mo_extended_12 (by decide) (fun c1 => ?_) (fun c1 => ?_)
  · have h := ok_f h (fun z => c1 ((lg_cmp_eq _ _).mpr z))
    refine lv_iconst (v := (0 : Int32)) hx hb d_Mo_extended_19 (by decide) ?_
    exact w_Mo_extended_20 o C0 q x0 x2 (0 : Int32) h H locs ls hw (lv_sub hl [0, 1] rfl)
  · have h := ok_t h ((lg_cmp_eq _ _).mp c1)
    refine lv_iconst (v := (1 : Int32)) hx hb d_Mo_extended_15 (by decide) ?_
    refine lv_goto (tgt := 20) hx hb d_Mo_extended_16 (by decide) ?_
    exact w_Mo_extended_20 o C0 q x0 x2 (1 : Int32) h H locs ls hw (lv_sub hl [0, 1] rfl)
def kb_Mo_fetchNumber_5 (ih5 : Int32 × Int64 × Int32 × z_Sg → Option (Int64 × z_Sg)) (x1 : Int32) (x2 : Int64) (x4 : Int32) (q : z_Sg) : Option (Int64 × z_Sg) :=
  if x1 ≤ x4 then ((f_Mo_extended x2 x1 q).bind (fun r2 => some (r2, q))) else ((f_Mo_fetch q).bind (fun r3 => z_nm ((x2 ||| (z_lshl (r3.1.toInt64) ((8 : Int32) * x4)))) (fun n4 => z_nm (x4 + (1 : Int32)) (fun n5 => ih5 (x1, n4, n5, r3.2)))))
def k_Mo_fetchNumber_5 (x1 : Int32) (x2 : Int64) (x4 : Int32) (q : z_Sg) : Option (Int64 × z_Sg) := z_lo (fun ih5 a => kb_Mo_fetchNumber_5 ih5 a.1 a.2.1 a.2.2.1 a.2.2.2) 2000 (x1, x2, x4, q)
def f_Mo_fetchNumber (x1 : Int32) (q : z_Sg) : Option (Int64 × z_Sg) :=
  k_Mo_fetchNumber_5 x1 (0 : Int64) (0 : Int32) q
set_option maxHeartbeats 4000000 in
set_option maxRecDepth 100000 in
theorem wb_Mo_fetchNumber_5 {p : Program} {l : Launch} {e : Env} {s : State} {m : MethodId} {args : Array Value} {below : List Frame} {meth : Method} {c : Code} {D : va_G} {A : Nat → Prop} {ad : Nat → Nat} {ca : Nat → ClassId} (o : (Int64 × z_Sg)) (C0 : z_cx z_RMo b_Mo_fetchNumber 5 (some .long) D (z_Mt ca) A p s m args meth c) (q : z_Sg) (ih5 : Int32 × Int64 × Int32 × z_Sg → Option (Int64 × z_Sg)) (hi5 : ∀ a : Int32 × Int64 × Int32 × z_Sg, ih5 a = some o → ∀ (H : Heap) (locs : List Loc) (ls : Array Slot), z_wd D (z_M ad ca a.2.2.2) A s H locs → lv_has ls 5 [(0, .ref (ad 0)), (1, .int a.1), (2, .long a.2.1), (4, .int a.2.2.1)] → W p l e (z_rm 5 127) s m args below meth c H locs 0 0 (z_ql below D (z_Mt ca) (z_M ad ca o.2) A s args o.1) (F0 m 5 ls [])) (x1 : Int32) (x2 : Int64) (x4 : Int32) (h : kb_Mo_fetchNumber_5 ih5 x1 x2 x4 q = some o) : ∀ (H : Heap) (locs : List Loc) (ls : Array Slot), z_wd D (z_M ad ca q) A s H locs → lv_has ls 5 [(0, .ref (ad 0)), (1, .int x1), (2, .long x2), (4, .int x4)] → W p l e (z_rm 5 127) s m args below meth c H locs 0 0 (z_ql below D (z_Mt ca) (z_M ad ca o.2) A s args o.1) (F0 m 5 ls []) := by
  obtain ⟨hx, hb, hr, hlk, hml, hown, hts, hK, hA⟩ := id C0
  intro H locs ls hw hl
  refine lv_iload hx hb d_Mo_fetchNumber_5 (lv_at hl 3 rfl) ?_
  refine lv_iload_n hx hb d_Mo_fetchNumber_7 rfl (lv_at hl 1 rfl) ?_
  refine lv_icmp_ge (tgt := 31) hx hb d_Mo_fetchNumber_8 (by decide) (fun c1 => ?_) (fun c1 => ?_)
  · have h := ok_t h c1
    refine lv_lload_n hx hb d_Mo_fetchNumber_31 rfl (lv_at hl 2 rfl) ?_
    refine lv_iload_n hx hb d_Mo_fetchNumber_32 rfl (lv_at hl 1 rfl) ?_
    obtain ⟨r2, er2, h⟩ := ok_b h
    refine z_sl (rest := []) C0 hw (c_Mo_extended x2 x1 q r2 er2) mw_Mo_extended ml_Mo_118 ⟨Nat.le_of_ble_eq_true rfl, Nat.le_of_ble_eq_true rfl⟩ ⟨Nat.le_refl 0, Nat.le_refl 0⟩ rfl hl.1 rfl (Nat.le_of_ble_eq_true rfl) d_Mo_fetchNumber_33 (fun H locs hw => ?_)
    have ho := Option.some.inj h
    subst ho
    exact z_rtl C0 hw d_Mo_fetchNumber_36
  · have h := ok_f h c1
    refine lv_lload_n hx hb d_Mo_fetchNumber_11 rfl (lv_at hl 2 rfl) ?_
    refine lv_aload_n hx hb d_Mo_fetchNumber_12 rfl (lv_at hl 0 rfl) ?_
    obtain ⟨r3, er3, h⟩ := ok_b h
    refine z_vi (rest := [.long x2]) C0 hw (c_Mo_fetch q r3 er3) mw_Mo_fetch ml_Mo_114 0 rfl ⟨Nat.le_of_ble_eq_true rfl, Nat.le_of_ble_eq_true rfl⟩ ⟨Nat.le_refl 0, Nat.le_refl 0⟩ rfl hl.1 rfl (Nat.le_of_ble_eq_true rfl) d_Mo_fetchNumber_13 (fun H locs hw => ?_)
    refine lv_i2l hx hb d_Mo_fetchNumber_16 rfl ?_
    refine lv_bipush (v := (8 : Int32)) hx hb d_Mo_fetchNumber_17 (by decide) ?_
    refine lv_iload hx hb d_Mo_fetchNumber_19 (lv_at hl 3 rfl) ?_
    refine lv_imul hx hb d_Mo_fetchNumber_21 ?_
    refine lv_lshl (v := (z_lshl (r3.1.toInt64) ((8 : Int32) * x4))) hx hb d_Mo_fetchNumber_22 rfl ?_
    refine lv_lor hx hb d_Mo_fetchNumber_23 ?_
    obtain ⟨n4, en4, h⟩ := ok_n h
    refine z_tl en4 ?_
    refine lv_lstore_n (lv' := [(2, .long n4), (0, .ref (ad 0)), (1, .int x1), (4, .int x4)]) hx hb d_Mo_fetchNumber_24 rfl hl (by decide) rfl (fun ls hl => ?_)
    obtain ⟨n5, en5, h⟩ := ok_n h
    refine lv_iinc (v := n5) (lv' := [(4, .int n5), (2, .long n4), (0, .ref (ad 0)), (1, .int x1)]) hx hb d_Mo_fetchNumber_25 hl (k := 3) rfl (by rw [en5]; rfl) (by decide) rfl (fun ls hl => ?_)
    refine lv_goto (tgt := 5) hx hb d_Mo_fetchNumber_28 (by decide) ?_
    exact hi5 (x1, n4, n5, r3.2) h H locs ls hw (lv_sub hl [2, 3, 1, 0] rfl)
theorem w_Mo_fetchNumber_5 {p : Program} {l : Launch} {e : Env} {s : State} {m : MethodId} {args : Array Value} {below : List Frame} {meth : Method} {c : Code} {D : va_G} {A : Nat → Prop} {ad : Nat → Nat} {ca : Nat → ClassId} (o : (Int64 × z_Sg)) (C0 : z_cx z_RMo b_Mo_fetchNumber 5 (some .long) D (z_Mt ca) A p s m args meth c) (q : z_Sg) (x1 : Int32) (x2 : Int64) (x4 : Int32) (h : k_Mo_fetchNumber_5 x1 x2 x4 q = some o) : ∀ (H : Heap) (locs : List Loc) (ls : Array Slot), z_wd D (z_M ad ca q) A s H locs → lv_has ls 5 [(0, .ref (ad 0)), (1, .int x1), (2, .long x2), (4, .int x4)] → W p l e (z_rm 5 127) s m args below meth c H locs 0 0 (z_ql below D (z_Mt ca) (z_M ad ca o.2) A s args o.1) (F0 m 5 ls []) := by
  have key : ∀ (n : Nat) (a : Int32 × Int64 × Int32 × z_Sg), z_lo (fun ih5 a => kb_Mo_fetchNumber_5 ih5 a.1 a.2.1 a.2.2.1 a.2.2.2) n a = some o → ∀ (H : Heap) (locs : List Loc) (ls : Array Slot), z_wd D (z_M ad ca a.2.2.2) A s H locs → lv_has ls 5 [(0, .ref (ad 0)), (1, .int a.1), (2, .long a.2.1), (4, .int a.2.2.1)] → W p l e (z_rm 5 127) s m args below meth c H locs 0 0 (z_ql below D (z_Mt ca) (z_M ad ca o.2) A s args o.1) (F0 m 5 ls []) := by
    intro n
    induction n with
    | zero => intro a h; cases h
    | succ n ih => exact fun a h => wb_Mo_fetchNumber_5 o C0 a.2.2.2 (z_lo (fun ih5 a => kb_Mo_fetchNumber_5 ih5 a.1 a.2.1 a.2.2.1 a.2.2.2) n) ih a.1 a.2.1 a.2.2.1 h
  exact key 2000 (x1, x2, x4, q) h
set_option maxHeartbeats 4000000 in
set_option maxRecDepth 100000 in
theorem c_Mo_fetchNumber {l : Launch} {D : va_G} {ad : Nat → Nat} {ca : Nat → ClassId} (x1 : Int32) (q : z_Sg) (o : (Int64 × z_Sg)) (h : f_Mo_fetchNumber x1 q = some o) : z_cl l y_Mo_fetchNumber b_Mo_fetchNumber 5 (some .long) 5 127 D (z_Mt ca) (z_M ad ca q) (z_M ad ca o.2) [.ref (ad 0), .int x1] o.1 := by
  refine z_cl_of (own := z_RMo) (by decide) rfl ?_
  intro p e s m below meth c A C0 hw
  obtain ⟨hx, hb, hr, hlk, hml, hown, hts, hK, hA⟩ := id C0
  generalize hH : s.heap = H at hw ⊢
  generalize hlo : ([] : List Loc) = locs at hw ⊢
  refine z_entry (lv := [(0, .ref (ad 0)), (1, .int x1)]) (Nat.le_of_ble_eq_true rfl) rfl (fun ls hl => ?_)
  unfold f_Mo_fetchNumber at h
  refine lv_lconst (v := (0 : Int64)) hx hb d_Mo_fetchNumber_0 (by decide) ?_
  refine lv_lstore_n (lv' := [(2, .long (0 : Int64)), (0, .ref (ad 0)), (1, .int x1)]) hx hb d_Mo_fetchNumber_1 rfl hl (by decide) rfl (fun ls hl => ?_)
  refine lv_iconst (v := (0 : Int32)) hx hb d_Mo_fetchNumber_2 (by decide) ?_
  refine lv_istore (lv' := [(4, .int (0 : Int32)), (2, .long (0 : Int64)), (0, .ref (ad 0)), (1, .int x1)]) hx hb d_Mo_fetchNumber_3 hl (by decide) rfl (fun ls hl => ?_)
  exact w_Mo_fetchNumber_5 o C0 q x1 (0 : Int64) (0 : Int32) h H locs ls hw (lv_sub hl [2, 3, 1, 0] rfl)
