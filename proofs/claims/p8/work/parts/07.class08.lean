def k_Op_isWritten_289 (t0 : Int32) (q : z_Sg) : Option Int32 :=
  z_gd (z_bo t0) (some t0)
def k_Op_isWritten_272 (q : z_Sg) : Option Int32 :=
  if (z_gI q 13) = (7 : Int32) then (k_Op_isWritten_289 (0 : Int32) q) else (k_Op_isWritten_289 (1 : Int32) q)
def k_Op_isWritten_290 (q : z_Sg) : Option Int32 :=
  some (1 : Int32)
def k_Op_isWritten_319 (t0 : Int32) (q : z_Sg) : Option Int32 :=
  z_gd (z_bo t0) (some t0)
def k_Op_isWritten_314 (q : z_Sg) : Option Int32 :=
  k_Op_isWritten_319 (1 : Int32) q
def k_Op_isWritten_292 (q : z_Sg) : Option Int32 :=
  if (z_gI q 13) = (2 : Int32) then (k_Op_isWritten_314 q) else (if (z_gI q 13) = (3 : Int32) then (k_Op_isWritten_314 q) else (k_Op_isWritten_319 (0 : Int32) q))
def k_Op_isWritten_336 (t0 : Int32) (q : z_Sg) : Option Int32 :=
  z_gd (z_bo t0) (some t0)
def k_Op_isWritten_337 (q : z_Sg) : Option Int32 :=
  some (1 : Int32)
def k_Op_isWritten_355 (t0 : Int32) (q : z_Sg) : Option Int32 :=
  z_gd (z_bo t0) (some t0)
def k_Op_isWritten_33 (t0 : Int32) (q : z_Sg) : Option Int32 :=
  z_gd (z_bo t0) (some t0)
def k_Op_isWritten_32 (q : z_Sg) : Option Int32 :=
  k_Op_isWritten_33 (0 : Int32) q
def f_Op_isWritten (q : z_Sg) : Option Int32 :=
  z_nm ((z_gI q 11)) (fun n1 => if (64 : Int32) ≤ n1 then (if (n1 &&& (-16 : Int32)) = (400 : Int32) then (some (1 : Int32)) else (if n1 = (128 : Int32) then (k_Op_isWritten_272 q) else (if n1 = (129 : Int32) then (k_Op_isWritten_272 q) else (if n1 = (131 : Int32) then (k_Op_isWritten_272 q) else (if n1 = (134 : Int32) then (k_Op_isWritten_290 q) else (if n1 = (135 : Int32) then (k_Op_isWritten_290 q) else (if n1 = (136 : Int32) then (k_Op_isWritten_290 q) else (if n1 = (137 : Int32) then (k_Op_isWritten_290 q) else (if n1 = (192 : Int32) then (k_Op_isWritten_290 q) else (if n1 = (193 : Int32) then (k_Op_isWritten_290 q) else (if n1 = (198 : Int32) then (k_Op_isWritten_290 q) else (if n1 = (199 : Int32) then (k_Op_isWritten_290 q) else (if n1 = (208 : Int32) then (k_Op_isWritten_290 q) else (if n1 = (209 : Int32) then (k_Op_isWritten_290 q) else (if n1 = (210 : Int32) then (k_Op_isWritten_290 q) else (if n1 = (211 : Int32) then (k_Op_isWritten_290 q) else (if n1 = (246 : Int32) then (k_Op_isWritten_292 q) else (if n1 = (247 : Int32) then (k_Op_isWritten_292 q) else (if n1 = (254 : Int32) then (k_Op_isWritten_290 q) else (if n1 = (255 : Int32) then (if (2 : Int32) ≤ (z_gI q 13) then (k_Op_isWritten_336 (0 : Int32) q) else (k_Op_isWritten_336 (1 : Int32) q)) else (if n1 = (427 : Int32) then (k_Op_isWritten_337 q) else (if n1 = (432 : Int32) then (k_Op_isWritten_337 q) else (if n1 = (433 : Int32) then (k_Op_isWritten_337 q) else (if n1 = (435 : Int32) then (k_Op_isWritten_337 q) else (if n1 = (442 : Int32) then (if (z_gI q 13) = (4 : Int32) then (k_Op_isWritten_355 (0 : Int32) q) else (k_Op_isWritten_355 (1 : Int32) q)) else (if n1 = (443 : Int32) then (k_Op_isWritten_337 q) else (if n1 = (448 : Int32) then (k_Op_isWritten_337 q) else (if n1 = (449 : Int32) then (k_Op_isWritten_337 q) else (some (0 : Int32)))))))))))))))))))))))))))))) else (if (2 : Int32) ≤ (n1 &&& (7 : Int32)) then (k_Op_isWritten_32 q) else (if (56 : Int32) ≤ n1 then (k_Op_isWritten_32 q) else (k_Op_isWritten_33 (1 : Int32) q))))
set_option maxHeartbeats 4000000 in
set_option maxRecDepth 100000 in
theorem w_Op_isWritten_289 {p : Program} {l : Launch} {e : Env} {s : State} {m : MethodId} {args : Array Value} {below : List Frame} {meth : Method} {c : Code} {D : va_G} {A : Nat → Prop} {ad : Nat → Nat} {ca : Nat → ClassId} (o : Int32) (C0 : z_cx z_ROp b_Op_isWritten 2 (some .boolean) D (z_Kt ca) A p s m args meth c) (q : z_Sg) (t0 : Int32) (h : k_Op_isWritten_289 t0 q = some o) : ∀ (H : Heap) (locs : List Loc) (ls : Array Slot), z_wd D (z_K ad ca q) A s H locs → lv_has ls 2 [] → W p l e (z_rm 0 0) s m args below meth c H locs 0 0 (z_qi below D (z_Kt ca) (z_K ad ca q) A s args o) (F0 m 289 ls [.int t0]) := by
  obtain ⟨hx, hb, hr, hlk, hml, hown, hts, hK, hA⟩ := id C0
  intro H locs ls hw hl
  obtain ⟨b6, h⟩ := ok_G h
  have ho := Option.some.inj h
  subst ho
  exact z_rtz C0 hw (z_bo_n b6) d_Op_isWritten_289
set_option maxHeartbeats 4000000 in
set_option maxRecDepth 100000 in
theorem w_Op_isWritten_272 {p : Program} {l : Launch} {e : Env} {s : State} {m : MethodId} {args : Array Value} {below : List Frame} {meth : Method} {c : Code} {D : va_G} {A : Nat → Prop} {ad : Nat → Nat} {ca : Nat → ClassId} (o : Int32) (C0 : z_cx z_ROp b_Op_isWritten 2 (some .boolean) D (z_Kt ca) A p s m args meth c) (q : z_Sg) (h : k_Op_isWritten_272 q = some o) : ∀ (H : Heap) (locs : List Loc) (ls : Array Slot), z_wd D (z_K ad ca q) A s H locs → lv_has ls 2 [(0, .ref (ad 6))] → W p l e (z_rm 0 0) s m args below meth c H locs 0 0 (z_qi below D (z_Kt ca) (z_K ad ca q) A s args o) (F0 m 272 ls []) := by
  obtain ⟨hx, hb, hr, hlk, hml, hown, hts, hK, hA⟩ := id C0
  intro H locs ls hw hl
  refine lv_aload_n hx hb d_Op_isWritten_272 rfl (lv_at hl 0 rfl) ?_
  refine gfK_6_code C0 hw fl_Op_15 d_Op_isWritten_273 ?_
  refine gfK_5_reg C0 hw fl_Op_79 d_Op_isWritten_276 ?_
  refine lv_bipush (v := (7 : Int32)) hx hb d_Op_isWritten_279 (by decide) ?_
  refine lv_icmp_eq (tgt := 288) hx hb d_Op_isWritten_281 (by decide) (fun c5 => ?_) (fun c5 => ?_)
  · have h := ok_t h c5
    refine lv_iconst (v := (0 : Int32)) hx hb d_Op_isWritten_288 (by decide) ?_
    exact w_Op_isWritten_289 o C0 q (0 : Int32) h H locs ls hw (lv_sub hl [] rfl)
  · have h := ok_f h c5
    refine lv_iconst (v := (1 : Int32)) hx hb d_Op_isWritten_284 (by decide) ?_
    refine lv_goto (tgt := 289) hx hb d_Op_isWritten_285 (by decide) ?_
    exact w_Op_isWritten_289 o C0 q (1 : Int32) h H locs ls hw (lv_sub hl [] rfl)
set_option maxHeartbeats 4000000 in
set_option maxRecDepth 100000 in
theorem w_Op_isWritten_290 {p : Program} {l : Launch} {e : Env} {s : State} {m : MethodId} {args : Array Value} {below : List Frame} {meth : Method} {c : Code} {D : va_G} {A : Nat → Prop} {ad : Nat → Nat} {ca : Nat → ClassId} (o : Int32) (C0 : z_cx z_ROp b_Op_isWritten 2 (some .boolean) D (z_Kt ca) A p s m args meth c) (q : z_Sg) (h : k_Op_isWritten_290 q = some o) : ∀ (H : Heap) (locs : List Loc) (ls : Array Slot), z_wd D (z_K ad ca q) A s H locs → lv_has ls 2 [] → W p l e (z_rm 0 0) s m args below meth c H locs 0 0 (z_qi below D (z_Kt ca) (z_K ad ca q) A s args o) (F0 m 290 ls []) := by
  obtain ⟨hx, hb, hr, hlk, hml, hown, hts, hK, hA⟩ := id C0
  intro H locs ls hw hl
  refine lv_iconst (v := (1 : Int32)) hx hb d_Op_isWritten_290 (by decide) ?_
  have ho := Option.some.inj h
  subst ho
  exact z_rtz C0 hw (z_bo_n (Or.inr rfl)) d_Op_isWritten_291
set_option maxHeartbeats 4000000 in
set_option maxRecDepth 100000 in
theorem w_Op_isWritten_319 {p : Program} {l : Launch} {e : Env} {s : State} {m : MethodId} {args : Array Value} {below : List Frame} {meth : Method} {c : Code} {D : va_G} {A : Nat → Prop} {ad : Nat → Nat} {ca : Nat → ClassId} (o : Int32) (C0 : z_cx z_ROp b_Op_isWritten 2 (some .boolean) D (z_Kt ca) A p s m args meth c) (q : z_Sg) (t0 : Int32) (h : k_Op_isWritten_319 t0 q = some o) : ∀ (H : Heap) (locs : List Loc) (ls : Array Slot), z_wd D (z_K ad ca q) A s H locs → lv_has ls 2 [] → W p l e (z_rm 0 0) s m args below meth c H locs 0 0 (z_qi below D (z_Kt ca) (z_K ad ca q) A s args o) (F0 m 319 ls [.int t0]) := by
  obtain ⟨hx, hb, hr, hlk, hml, hown, hts, hK, hA⟩ := id C0
  intro H locs ls hw hl
  obtain ⟨b23, h⟩ := ok_G h
  have ho := Option.some.inj h
  subst ho
  exact z_rtz C0 hw (z_bo_n b23) d_Op_isWritten_319
set_option maxHeartbeats 4000000 in
set_option maxRecDepth 100000 in
theorem w_Op_isWritten_314 {p : Program} {l : Launch} {e : Env} {s : State} {m : MethodId} {args : Array Value} {below : List Frame} {meth : Method} {c : Code} {D : va_G} {A : Nat → Prop} {ad : Nat → Nat} {ca : Nat → ClassId} (o : Int32) (C0 : z_cx z_ROp b_Op_isWritten 2 (some .boolean) D (z_Kt ca) A p s m args meth c) (q : z_Sg) (h : k_Op_isWritten_314 q = some o) : ∀ (H : Heap) (locs : List Loc) (ls : Array Slot), z_wd D (z_K ad ca q) A s H locs → lv_has ls 2 [] → W p l e (z_rm 0 0) s m args below meth c H locs 0 0 (z_qi below D (z_Kt ca) (z_K ad ca q) A s args o) (F0 m 314 ls []) := by
  obtain ⟨hx, hb, hr, hlk, hml, hown, hts, hK, hA⟩ := id C0
  intro H locs ls hw hl
  refine lv_iconst (v := (1 : Int32)) hx hb d_Op_isWritten_314 (by decide) ?_
  refine lv_goto (tgt := 319) hx hb d_Op_isWritten_315 (by decide) ?_
  exact w_Op_isWritten_319 o C0 q (1 : Int32) h H locs ls hw (lv_sub hl [] rfl)
set_option maxHeartbeats 4000000 in
set_option maxRecDepth 100000 in
theorem w_Op_isWritten_292 {p : Program} {l : Launch} {e : Env} {s : State} {m : MethodId} {args : Array Value} {below : List Frame} {meth : Method} {c : Code} {D : va_G} {A : Nat → Prop} {ad : Nat → Nat} {ca : Nat → ClassId} (o : Int32) (C0 : z_cx z_ROp b_Op_isWritten 2 (some .boolean) D (z_Kt ca) A p s m args meth c) (q : z_Sg) (h : k_Op_isWritten_292 q = some o) : ∀ (H : Heap) (locs : List Loc) (ls : Array Slot), z_wd D (z_K ad ca q) A s H locs → lv_has ls 2 [(0, .ref (ad 6))] → W p l e (z_rm 0 0) s m args below meth c H locs 0 0 (z_qi below D (z_Kt ca) (z_K ad ca q) A s args o) (F0 m 292 ls []) := by
  obtain ⟨hx, hb, hr, hlk, hml, hown, hts, hK, hA⟩ := id C0
  intro H locs ls hw hl
  refine lv_aload_n hx hb d_Op_isWritten_292 rfl (lv_at hl 0 rfl) ?_
  refine gfK_6_code C0 hw fl_Op_15 d_Op_isWritten_293 ?_
  refine gfK_5_reg C0 hw fl_Op_79 d_Op_isWritten_296 ?_
  refine lv_iconst (v := (2 : Int32)) hx hb d_Op_isWritten_299 (by decide) ?_
  refine lv_icmp_eq (tgt := 314) hx hb d_Op_isWritten_300 (by decide) (fun c22 => ?_) (fun c22 => ?_)
  · have h := ok_t h c22
    exact w_Op_isWritten_314 o C0 q h H locs ls hw (lv_sub hl [] rfl)
  · have h := ok_f h c22
    refine lv_aload_n hx hb d_Op_isWritten_303 rfl (lv_at hl 0 rfl) ?_
    refine gfK_6_code C0 hw fl_Op_15 d_Op_isWritten_304 ?_
    refine gfK_5_reg C0 hw fl_Op_79 d_Op_isWritten_307 ?_
    refine lv_iconst (v := (3 : Int32)) hx hb d_Op_isWritten_310 (by decide) ?_
    refine lv_icmp_ne (tgt := 318) hx hb d_Op_isWritten_311 (by decide) (fun c24 => ?_) (fun c24 => ?_)
    · have h := ok_f h c24
      refine lv_iconst (v := (0 : Int32)) hx hb d_Op_isWritten_318 (by decide) ?_
      exact w_Op_isWritten_319 o C0 q (0 : Int32) h H locs ls hw (lv_sub hl [] rfl)
    · have h := ok_t h c24
      exact w_Op_isWritten_314 o C0 q h H locs ls hw (lv_sub hl [] rfl)
set_option maxHeartbeats 4000000 in
set_option maxRecDepth 100000 in
theorem w_Op_isWritten_336 {p : Program} {l : Launch} {e : Env} {s : State} {m : MethodId} {args : Array Value} {below : List Frame} {meth : Method} {c : Code} {D : va_G} {A : Nat → Prop} {ad : Nat → Nat} {ca : Nat → ClassId} (o : Int32) (C0 : z_cx z_ROp b_Op_isWritten 2 (some .boolean) D (z_Kt ca) A p s m args meth c) (q : z_Sg) (t0 : Int32) (h : k_Op_isWritten_336 t0 q = some o) : ∀ (H : Heap) (locs : List Loc) (ls : Array Slot), z_wd D (z_K ad ca q) A s H locs → lv_has ls 2 [] → W p l e (z_rm 0 0) s m args below meth c H locs 0 0 (z_qi below D (z_Kt ca) (z_K ad ca q) A s args o) (F0 m 336 ls [.int t0]) := by
  obtain ⟨hx, hb, hr, hlk, hml, hown, hts, hK, hA⟩ := id C0
  intro H locs ls hw hl
  obtain ⟨b29, h⟩ := ok_G h
  have ho := Option.some.inj h
  subst ho
  exact z_rtz C0 hw (z_bo_n b29) d_Op_isWritten_336
set_option maxHeartbeats 4000000 in
set_option maxRecDepth 100000 in
theorem w_Op_isWritten_337 {p : Program} {l : Launch} {e : Env} {s : State} {m : MethodId} {args : Array Value} {below : List Frame} {meth : Method} {c : Code} {D : va_G} {A : Nat → Prop} {ad : Nat → Nat} {ca : Nat → ClassId} (o : Int32) (C0 : z_cx z_ROp b_Op_isWritten 2 (some .boolean) D (z_Kt ca) A p s m args meth c) (q : z_Sg) (h : k_Op_isWritten_337 q = some o) : ∀ (H : Heap) (locs : List Loc) (ls : Array Slot), z_wd D (z_K ad ca q) A s H locs → lv_has ls 2 [] → W p l e (z_rm 0 0) s m args below meth c H locs 0 0 (z_qi below D (z_Kt ca) (z_K ad ca q) A s args o) (F0 m 337 ls []) := by
  obtain ⟨hx, hb, hr, hlk, hml, hown, hts, hK, hA⟩ := id C0
  intro H locs ls hw hl
  refine lv_iconst (v := (1 : Int32)) hx hb d_Op_isWritten_337 (by decide) ?_
  have ho := Option.some.inj h
  subst ho
  exact z_rtz C0 hw (z_bo_n (Or.inr rfl)) d_Op_isWritten_338
set_option maxHeartbeats 4000000 in
set_option maxRecDepth 100000 in
theorem w_Op_isWritten_355 {p : Program} {l : Launch} {e : Env} {s : State} {m : MethodId} {args : Array Value} {below : List Frame} {meth : Method} {c : Code} {D : va_G} {A : Nat → Prop} {ad : Nat → Nat} {ca : Nat → ClassId} (o : Int32) (C0 : z_cx z_ROp b_Op_isWritten 2 (some .boolean) D (z_Kt ca) A p s m args meth c) (q : z_Sg) (t0 : Int32) (h : k_Op_isWritten_355 t0 q = some o) : ∀ (H : Heap) (locs : List Loc) (ls : Array Slot), z_wd D (z_K ad ca q) A s H locs → lv_has ls 2 [] → W p l e (z_rm 0 0) s m args below meth c H locs 0 0 (z_qi below D (z_Kt ca) (z_K ad ca q) A s args o) (F0 m 355 ls [.int t0]) := by
  obtain ⟨hx, hb, hr, hlk, hml, hown, hts, hK, hA⟩ := id C0
  intro H locs ls hw hl
  obtain ⟨b36, h⟩ := ok_G h
  have ho := Option.some.inj h
  subst ho
  exact z_rtz C0 hw (z_bo_n b36) d_Op_isWritten_355
set_option maxHeartbeats 4000000 in
set_option maxRecDepth 100000 in
theorem w_Op_isWritten_33 {p : Program} {l : Launch} {e : Env} {s : State} {m : MethodId} {args : Array Value} {below : List Frame} {meth : Method} {c : Code} {D : va_G} {A : Nat → Prop} {ad : Nat → Nat} {ca : Nat → ClassId} (o : Int32) (C0 : z_cx z_ROp b_Op_isWritten 2 (some .boolean) D (z_Kt ca) A p s m args meth c) (q : z_Sg) (t0 : Int32) (h : k_Op_isWritten_33 t0 q = some o) : ∀ (H : Heap) (locs : List Loc) (ls : Array Slot), z_wd D (z_K ad ca q) A s H locs → lv_has ls 2 [] → W p l e (z_rm 0 0) s m args below meth c H locs 0 0 (z_qi below D (z_Kt ca) (z_K ad ca q) A s args o) (F0 m 33 ls [.int t0]) := by
  obtain ⟨hx, hb, hr, hlk, hml, hown, hts, hK, hA⟩ := id C0
  intro H locs ls hw hl
  obtain ⟨b41, h⟩ := ok_G h
  have ho := Option.some.inj h
  subst ho
  exact z_rtz C0 hw (z_bo_n b41) d_Op_isWritten_33
set_option maxHeartbeats 4000000 in
set_option maxRecDepth 100000 in
theorem w_Op_isWritten_32 {p : Program} {l : Launch} {e : Env} {s : State} {m : MethodId} {args : Array Value} {below : List Frame} {meth : Method} {c : Code} {D : va_G} {A : Nat → Prop} {ad : Nat → Nat} {ca : Nat → ClassId} (o : Int32) (C0 : z_cx z_ROp b_Op_isWritten 2 (some .boolean) D (z_Kt ca) A p s m args meth c) (q : z_Sg) (h : k_Op_isWritten_32 q = some o) : ∀ (H : Heap) (locs : List Loc) (ls : Array Slot), z_wd D (z_K ad ca q) A s H locs → lv_has ls 2 [] → W p l e (z_rm 0 0) s m args below meth c H locs 0 0 (z_qi below D (z_Kt ca) (z_K ad ca q) A s args o) (F0 m 32 ls []) := by
  obtain ⟨hx, hb, hr, hlk, hml, hown, hts, hK, hA⟩ := id C0
  intro H locs ls hw hl
  refine lv_iconst (v := (0 : Int32)) hx hb d_Op_isWritten_32 (by decide) ?_
  exact w_Op_isWritten_33 o C0 q (0 : Int32) h H locs ls hw (lv_sub hl [] rfl)
set_option maxHeartbeats 4000000 in
set_option maxRecDepth 100000 in
theorem c_Op_isWritten {l : Launch} {D : va_G} {ad : Nat → Nat} {ca : Nat → ClassId} (q : z_Sg) (o : Int32) (h : f_Op_isWritten q = some o) : z_ci l y_Op_isWritten b_Op_isWritten 2 (some .boolean) 0 0 D (z_Kt ca) (z_K ad ca q) (z_K ad ca q) [.ref (ad 6)] o := by
  refine z_ci_of (own := z_ROp) (by decide) rfl ?_
  intro p e s m below meth c A C0 hw
  obtain ⟨hx, hb, hr, hlk, hml, hown, hts, hK, hA⟩ := id C0
  generalize hH : s.heap = H at hw ⊢
  generalize hlo : ([] : List Loc) = locs at hw ⊢
  refine z_entry (lv := [(0, .ref (ad 6))]) (Nat.le_of_ble_eq_true rfl) rfl (fun ls hl => ?_)
  unfold f_Op_isWritten at h
  refine lv_aload_n hx hb d_Op_isWritten_0 rfl (lv_at hl 0 rfl) ?_
  refine gfK_6_code C0 hw fl_Op_15 d_Op_isWritten_1 ?_
  refine gfK_5_opcode C0 hw fl_Op_36 d_Op_isWritten_4 ?_
  obtain ⟨n1, en1, h⟩ := ok_n h
  refine z_ti en1 ?_
  refine lv_istore_n (lv' := [(1, .int n1), (0, .ref (ad 6))]) hx hb d_Op_isWritten_7 rfl hl (by decide) rfl (fun ls hl => ?_)
  refine lv_iload_n hx hb d_Op_isWritten_8 rfl (lv_at hl 0 rfl) ?_
  refine lv_bipush (v := (64 : Int32)) hx hb d_Op_isWritten_9 (by decide) ?_
  refine lv_icmp_ge (tgt := 34) hx hb d_Op_isWritten_11 (by decide) (fun c2 => ?_) (fun c2 => ?_)
  · have h := ok_t h c2
    refine lv_iload_n hx hb d_Op_isWritten_34 rfl (lv_at hl 0 rfl) ?_
    refine lv_bipush (v := (-16 : Int32)) hx hb d_Op_isWritten_35 (by decide) ?_
    refine lv_iand hx hb d_Op_isWritten_37 ?_
    refine lv_sipush (v := (400 : Int32)) hx hb d_Op_isWritten_38 (by decide) ?_
    refine lv_icmp_ne (tgt := 46) hx hb d_Op_isWritten_41 (by decide) (fun c3 => ?_) (fun c3 => ?_)
    · have h := ok_f h c3
      refine lv_iload_n hx hb d_Op_isWritten_46 rfl (lv_at hl 0 rfl) ?_
      by_cases c4 : n1 = (128 : Int32)
      · have h := ok_t h c4
        refine lv_lookup (off := 225) (tgt := 272) hx hb d_Op_isWritten_47 (by decide) (by rw [c4]; rfl) (by decide) ?_
        exact w_Op_isWritten_272 o C0 q h H locs ls hw (lv_sub hl [1] rfl)
      have h := ok_f h c4
      by_cases c7 : n1 = (129 : Int32)
      · have h := ok_t h c7
        refine lv_lookup (off := 225) (tgt := 272) hx hb d_Op_isWritten_47 (by decide) (by rw [c7]; rfl) (by decide) ?_
        exact w_Op_isWritten_272 o C0 q h H locs ls hw (lv_sub hl [1] rfl)
      have h := ok_f h c7
      by_cases c8 : n1 = (131 : Int32)
      · have h := ok_t h c8
        refine lv_lookup (off := 225) (tgt := 272) hx hb d_Op_isWritten_47 (by decide) (by rw [c8]; rfl) (by decide) ?_
        exact w_Op_isWritten_272 o C0 q h H locs ls hw (lv_sub hl [1] rfl)
      have h := ok_f h c8
      by_cases c9 : n1 = (134 : Int32)
      · have h := ok_t h c9
        refine lv_lookup (off := 243) (tgt := 290) hx hb d_Op_isWritten_47 (by decide) (by rw [c9]; rfl) (by decide) ?_
        exact w_Op_isWritten_290 o C0 q h H locs ls hw (lv_sub hl [] rfl)
      have h := ok_f h c9
      by_cases c10 : n1 = (135 : Int32)
      · have h := ok_t h c10
        refine lv_lookup (off := 243) (tgt := 290) hx hb d_Op_isWritten_47 (by decide) (by rw [c10]; rfl) (by decide) ?_
        exact w_Op_isWritten_290 o C0 q h H locs ls hw (lv_sub hl [] rfl)
      have h := ok_f h c10
      by_cases c11 : n1 = (136 : Int32)
      · have h := ok_t h c11
        refine lv_lookup (off := 243) (tgt := 290) hx hb d_Op_isWritten_47 (by decide) (by rw [c11]; rfl) (by decide) ?_
        exact w_Op_isWritten_290 o C0 q h H locs ls hw (lv_sub hl [] rfl)
      have h := ok_f h c11
      by_cases c12 : n1 = (137 : Int32)
      · have h := ok_t h c12
        refine lv_lookup (off := 243) (tgt := 290) hx hb d_Op_isWritten_47 (by decide) (by rw [c12]; rfl) (by decide) ?_
        exact w_Op_isWritten_290 o C0 q h H locs ls hw (lv_sub hl [] rfl)
      have h := ok_f h c12
      by_cases c13 : n1 = (192 : Int32)
      · have h := ok_t h c13
        refine lv_lookup (off := 243) (tgt := 290) hx hb d_Op_isWritten_47 (by decide) (by rw [c13]; rfl) (by decide) ?_
        exact w_Op_isWritten_290 o C0 q h H locs ls hw (lv_sub hl [] rfl)
      have h := ok_f h c13
      by_cases c14 : n1 = (193 : Int32)
      · have h := ok_t h c14
        refine lv_lookup (off := 243) (tgt := 290) hx hb d_Op_isWritten_47 (by decide) (by rw [c14]; rfl) (by decide) ?_
        exact w_Op_isWritten_290 o C0 q h H locs ls hw (lv_sub hl [] rfl)
      have h := ok_f h c14
      by_cases c15 : n1 = (198 : Int32)
      · have h := ok_t h c15
        refine lv_lookup (off := 243) (tgt := 290) hx hb d_Op_isWritten_47 (by decide) (by rw [c15]; rfl) (by decide) ?_
        exact w_Op_isWritten_290 o C0 q h H locs ls hw (lv_sub hl [] rfl)
      have h := ok_f h c15
      by_cases c16 : n1 = (199 : Int32)
      · have h := ok_t h c16
        refine lv_lookup (off := 243) (tgt := 290) hx hb d_Op_isWritten_47 (by decide) (by rw [c16]; rfl) (by decide) ?_
        exact w_Op_isWritten_290 o C0 q h H locs ls hw (lv_sub hl [] rfl)
      have h := ok_f h c16
      by_cases c17 : n1 = (208 : Int32)
      · have h := ok_t h c17
        refine lv_lookup (off := 243) (tgt := 290) hx hb d_Op_isWritten_47 (by decide) (by rw [c17]; rfl) (by decide) ?_
        exact w_Op_isWritten_290 o C0 q h H locs ls hw (lv_sub hl [] rfl)
      have h := ok_f h c17
      by_cases c18 : n1 = (209 : Int32)
      · have h := ok_t h c18
        refine lv_lookup (off := 243) (tgt := 290) hx hb d_Op_isWritten_47 (by decide) (by rw [c18]; rfl) (by decide) ?_
        exact w_Op_isWritten_290 o C0 q h H locs ls hw (lv_sub hl [] rfl)
      have h := ok_f h c18
      by_cases c19 : n1 = (210 : Int32)
      · have h := ok_t h c19
        refine lv_lookup (off := 243) (tgt := 290) hx hb d_Op_isWritten_47 (by decide) (by rw [c19]; rfl) (by decide) ?_
        exact w_Op_isWritten_290 o C0 q h H locs ls hw (lv_sub hl [] rfl)
      have h := ok_f h c19
      by_cases c20 : n1 = (211 : Int32)
      · have h := ok_t h c20
        refine lv_lookup (off := 243) (tgt := 290) hx hb d_Op_isWritten_47 (by decide) (by rw [c20]; rfl) (by decide) ?_
        exact w_Op_isWritten_290 o C0 q h H locs ls hw (lv_sub hl [] rfl)
      have h := ok_f h c20
      by_cases c21 : n1 = (246 : Int32)
      · have h := ok_t h c21
        refine lv_lookup (off := 245) (tgt := 292) hx hb d_Op_isWritten_47 (by decide) (by rw [c21]; rfl) (by decide) ?_
        exact w_Op_isWritten_292 o C0 q h H locs ls hw (lv_sub hl [1] rfl)
      have h := ok_f h c21
      by_cases c25 : n1 = (247 : Int32)
      · have h := ok_t h c25
        refine lv_lookup (off := 245) (tgt := 292) hx hb d_Op_isWritten_47 (by decide) (by rw [c25]; rfl) (by decide) ?_
        exact w_Op_isWritten_292 o C0 q h H locs ls hw (lv_sub hl [1] rfl)
      have h := ok_f h c25
      by_cases c26 : n1 = (254 : Int32)
      · have h := ok_t h c26
        refine lv_lookup (off := 243) (tgt := 290) hx hb d_Op_isWritten_47 (by decide) (by rw [c26]; rfl) (by decide) ?_
        exact w_Op_isWritten_290 o C0 q h H locs ls hw (lv_sub hl [] rfl)
      have h := ok_f h c26
      by_cases c27 : n1 = (255 : Int32)
      · have h := ok_t h c27
        refine lv_lookup (off := 273) (tgt := 320) hx hb d_Op_isWritten_47 (by decide) (by rw [c27]; rfl) (by decide) ?_
        refine lv_aload_n hx hb d_Op_isWritten_320 rfl (lv_at hl 1 rfl) ?_
        refine gfK_6_code C0 hw fl_Op_15 d_Op_isWritten_321 ?_
        refine gfK_5_reg C0 hw fl_Op_79 d_Op_isWritten_324 ?_
        refine lv_iconst (v := (2 : Int32)) hx hb d_Op_isWritten_327 (by decide) ?_
        refine lv_icmp_ge (tgt := 335) hx hb d_Op_isWritten_328 (by decide) (fun c28 => ?_) (fun c28 => ?_)
        · have h := ok_t h c28
          refine lv_iconst (v := (0 : Int32)) hx hb d_Op_isWritten_335 (by decide) ?_
          exact w_Op_isWritten_336 o C0 q (0 : Int32) h H locs ls hw (lv_sub hl [] rfl)
        · have h := ok_f h c28
          refine lv_iconst (v := (1 : Int32)) hx hb d_Op_isWritten_331 (by decide) ?_
          refine lv_goto (tgt := 336) hx hb d_Op_isWritten_332 (by decide) ?_
          exact w_Op_isWritten_336 o C0 q (1 : Int32) h H locs ls hw (lv_sub hl [] rfl)
      have h := ok_f h c27
      by_cases c30 : n1 = (427 : Int32)
      · have h := ok_t h c30
        refine lv_lookup (off := 290) (tgt := 337) hx hb d_Op_isWritten_47 (by decide) (by rw [c30]; rfl) (by decide) ?_
        exact w_Op_isWritten_337 o C0 q h H locs ls hw (lv_sub hl [] rfl)
      have h := ok_f h c30
      by_cases c31 : n1 = (432 : Int32)
      · have h := ok_t h c31
        refine lv_lookup (off := 290) (tgt := 337) hx hb d_Op_isWritten_47 (by decide) (by rw [c31]; rfl) (by decide) ?_
        exact w_Op_isWritten_337 o C0 q h H locs ls hw (lv_sub hl [] rfl)
      have h := ok_f h c31
      by_cases c32 : n1 = (433 : Int32)
      · have h := ok_t h c32
        refine lv_lookup (off := 290) (tgt := 337) hx hb d_Op_isWritten_47 (by decide) (by rw [c32]; rfl) (by decide) ?_
        exact w_Op_isWritten_337 o C0 q h H locs ls hw (lv_sub hl [] rfl)
      have h := ok_f h c32
      by_cases c33 : n1 = (435 : Int32)
      · have h := ok_t h c33
        refine lv_lookup (off := 290) (tgt := 337) hx hb d_Op_isWritten_47 (by decide) (by rw [c33]; rfl) (by decide) ?_
        exact w_Op_isWritten_337 o C0 q h H locs ls hw (lv_sub hl [] rfl)
      have h := ok_f h c33
      by_cases c34 : n1 = (442 : Int32)
      · have h := ok_t h c34
        refine lv_lookup (off := 292) (tgt := 339) hx hb d_Op_isWritten_47 (by decide) (by rw [c34]; rfl) (by decide) ?_
        refine lv_aload_n hx hb d_Op_isWritten_339 rfl (lv_at hl 1 rfl) ?_
        refine gfK_6_code C0 hw fl_Op_15 d_Op_isWritten_340 ?_
        refine gfK_5_reg C0 hw fl_Op_79 d_Op_isWritten_343 ?_
        refine lv_iconst (v := (4 : Int32)) hx hb d_Op_isWritten_346 (by decide) ?_
        refine lv_icmp_eq (tgt := 354) hx hb d_Op_isWritten_347 (by decide) (fun c35 => ?_) (fun c35 => ?_)
        · have h := ok_t h c35
          refine lv_iconst (v := (0 : Int32)) hx hb d_Op_isWritten_354 (by decide) ?_
          exact w_Op_isWritten_355 o C0 q (0 : Int32) h H locs ls hw (lv_sub hl [] rfl)
        · have h := ok_f h c35
          refine lv_iconst (v := (1 : Int32)) hx hb d_Op_isWritten_350 (by decide) ?_
          refine lv_goto (tgt := 355) hx hb d_Op_isWritten_351 (by decide) ?_
          exact w_Op_isWritten_355 o C0 q (1 : Int32) h H locs ls hw (lv_sub hl [] rfl)
      have h := ok_f h c34
      by_cases c37 : n1 = (443 : Int32)
      · have h := ok_t h c37
        refine lv_lookup (off := 290) (tgt := 337) hx hb d_Op_isWritten_47 (by decide) (by rw [c37]; rfl) (by decide) ?_
        exact w_Op_isWritten_337 o C0 q h H locs ls hw (lv_sub hl [] rfl)
      have h := ok_f h c37
      by_cases c38 : n1 = (448 : Int32)
      · have h := ok_t h c38
        refine lv_lookup (off := 290) (tgt := 337) hx hb d_Op_isWritten_47 (by decide) (by rw [c38]; rfl) (by decide) ?_
        exact w_Op_isWritten_337 o C0 q h H locs ls hw (lv_sub hl [] rfl)
      have h := ok_f h c38
      by_cases c39 : n1 = (449 : Int32)
      · have h := ok_t h c39
        refine lv_lookup (off := 290) (tgt := 337) hx hb d_Op_isWritten_47 (by decide) (by rw [c39]; rfl) (by decide) ?_
        exact w_Op_isWritten_337 o C0 q h H locs ls hw (lv_sub hl [] rfl)
      have h := ok_f h c39
      refine lv_lookup (off := 309) (tgt := 356) hx hb d_Op_isWritten_47 (by decide) (by show Op.lookupswitch.offset [(128, 225), (129, 225), (131, 225), (134, 243), (135, 243), (136, 243), (137, 243), (192, 243), (193, 243), (198, 243), (199, 243), (208, 243), (209, 243), (210, 243), (211, 243), (246, 245), (247, 245), (254, 243), (255, 273), (427, 290), (432, 290), (433, 290), (435, 290), (442, 292), (443, 290), (448, 290), (449, 290)] _ _ = _; rw [lv_osw (a := 128) c4 rfl, lv_osw (a := 129) c7 rfl, lv_osw (a := 131) c8 rfl, lv_osw (a := 134) c9 rfl, lv_osw (a := 135) c10 rfl, lv_osw (a := 136) c11 rfl, lv_osw (a := 137) c12 rfl, lv_osw (a := 192) c13 rfl, lv_osw (a := 193) c14 rfl, lv_osw (a := 198) c15 rfl, lv_osw (a := 199) c16 rfl, lv_osw (a := 208) c17 rfl, lv_osw (a := 209) c18 rfl, lv_osw (a := 210) c19 rfl, lv_osw (a := 211) c20 rfl, lv_osw (a := 246) c21 rfl, lv_osw (a := 247) c25 rfl, lv_osw (a := 254) c26 rfl, lv_osw (a := 255) c27 rfl, lv_osw (a := 427) c30 rfl, lv_osw (a := 432) c31 rfl, lv_osw (a := 433) c32 rfl, lv_osw (a := 435) c33 rfl, lv_osw (a := 442) c34 rfl, lv_osw (a := 443) c37 rfl, lv_osw (a := 448) c38 rfl, lv_osw (a := 449) c39 rfl]; rfl) (by decide) ?_
      refine lv_iconst (v := (0 : Int32)) hx hb d_Op_isWritten_356 (by decide) ?_
      have ho := Option.some.inj h
      subst ho
      exact z_rtz C0 hw (z_bo_n (Or.inl rfl)) d_Op_isWritten_357
    · have h := ok_t h c3
      refine lv_iconst (v := (1 : Int32)) hx hb d_Op_isWritten_44 (by decide) ?_
      have ho := Option.some.inj h
      subst ho
      exact z_rtz C0 hw (z_bo_n (Or.inr rfl)) d_Op_isWritten_45
  · have h := ok_f h c2
    refine lv_iload_n hx hb d_Op_isWritten_14 rfl (lv_at hl 0 rfl) ?_
    refine lv_bipush (v := (7 : Int32)) hx hb d_Op_isWritten_15 (by decide) ?_
    refine lv_iand hx hb d_Op_isWritten_17 ?_
    refine lv_iconst (v := (2 : Int32)) hx hb d_Op_isWritten_18 (by decide) ?_
    refine lv_icmp_ge (tgt := 32) hx hb d_Op_isWritten_19 (by decide) (fun c40 => ?_) (fun c40 => ?_)
    · have h := ok_t h c40
      exact w_Op_isWritten_32 o C0 q h H locs ls hw (lv_sub hl [] rfl)
    · have h := ok_f h c40
      refine lv_iload_n hx hb d_Op_isWritten_22 rfl (lv_at hl 0 rfl) ?_
      refine lv_bipush (v := (56 : Int32)) hx hb d_Op_isWritten_23 (by decide) ?_
      refine lv_icmp_ge (tgt := 32) hx hb d_Op_isWritten_25 (by decide) (fun c42 => ?_) (fun c42 => ?_)
      · have h := ok_t h c42
        exact w_Op_isWritten_32 o C0 q h H locs ls hw (lv_sub hl [] rfl)
      · have h := ok_f h c42
        refine lv_iconst (v := (1 : Int32)) hx hb d_Op_isWritten_28 (by decide) ?_
        refine lv_goto (tgt := 33) hx hb d_Op_isWritten_29 (by decide) ?_
        exact w_Op_isWritten_33 o C0 q (1 : Int32) h H locs ls hw (lv_sub hl [] rfl)
def k_Op_open_45 (q : z_Sg) : Option (Int32 × z_Sg) :=
  some ((-1 : Int32), q)
def f_Op_open (q : z_Sg) : Option (Int32 × z_Sg) :=
  (f_Op_bytesOfE q).bind (fun r1 => z_nm (z_sI q 15 r1) (fun q2 => if (z_gI q2 12) = (3 : Int32) then (k_Op_open_45 q2) else (if (z_gI q2 11) = (141 : Int32) then (k_Op_open_45 q2) else (if (z_gI q2 11) = (143 : Int32) then (k_Op_open_45 q2) else ((f_De_placeOfE (0 : Int64) q2).bind (fun r6 => (f_Op_bitDistance q2).bind (fun r7 => (f_Op_isWritten q2).bind (fun r8 => (f_Op_openAt (r6 + r7) r8 q2).bind (fun r9 => some (r9.1, r9.2))))))))))
set_option maxHeartbeats 4000000 in
set_option maxRecDepth 100000 in
theorem w_Op_open_45 {p : Program} {l : Launch} {e : Env} {s : State} {m : MethodId} {args : Array Value} {below : List Frame} {meth : Method} {c : Code} {D : va_G} {A : Nat → Prop} {ad : Nat → Nat} {ca : Nat → ClassId} (o : (Int32 × z_Sg)) (C0 : z_cx z_ROp b_Op_open 1 (some .int) D (z_Kt ca) A p s m args meth c) (q : z_Sg) (h : k_Op_open_45 q = some o) : ∀ (H : Heap) (locs : List Loc) (ls : Array Slot), z_wd D (z_K ad ca q) A s H locs → lv_has ls 1 [] → W p l e (z_rm 4 112) s m args below meth c H locs 0 0 (z_qi below D (z_Kt ca) (z_K ad ca o.2) A s args o.1) (F0 m 45 ls []) := by
  obtain ⟨hx, hb, hr, hlk, hml, hown, hts, hK, hA⟩ := id C0
  intro H locs ls hw hl
  refine lv_iconst (v := (-1 : Int32)) hx hb d_Op_open_45 (by decide) ?_
  have ho := Option.some.inj h
  subst ho
  exact z_rti C0 hw d_Op_open_46
set_option maxHeartbeats 4000000 in
set_option maxRecDepth 100000 in
theorem c_Op_open {l : Launch} {D : va_G} {ad : Nat → Nat} {ca : Nat → ClassId} (q : z_Sg) (o : (Int32 × z_Sg)) (h : f_Op_open q = some o) : z_ci l y_Op_open b_Op_open 1 (some .int) 4 112 D (z_Kt ca) (z_K ad ca q) (z_K ad ca o.2) [.ref (ad 6)] o.1 := by
  refine z_ci_of (own := z_ROp) (by decide) rfl ?_
  intro p e s m below meth c A C0 hw
  obtain ⟨hx, hb, hr, hlk, hml, hown, hts, hK, hA⟩ := id C0
  generalize hH : s.heap = H at hw ⊢
  generalize hlo : ([] : List Loc) = locs at hw ⊢
  refine z_entry (lv := [(0, .ref (ad 6))]) (Nat.le_of_ble_eq_true rfl) rfl (fun ls hl => ?_)
  unfold f_Op_open at h
  refine lv_aload_n hx hb d_Op_open_0 rfl (lv_at hl 0 rfl) ?_
  refine lv_aload_n hx hb d_Op_open_1 rfl (lv_at hl 0 rfl) ?_
  obtain ⟨r1, er1, h⟩ := ok_b h
  refine z_vi (rest := [.ref (ad 6)]) C0 hw (c_Op_bytesOfE q r1 er1) mw_Op_bytesOfE ml_Op_23 6 rfl ⟨Nat.le_of_ble_eq_true rfl, Nat.le_of_ble_eq_true rfl⟩ ⟨Nat.le_refl 0, Nat.le_refl 0⟩ rfl hl.1 rfl (Nat.le_of_ble_eq_true rfl) d_Op_open_2 (fun H locs hw => ?_)
  refine pfK_6_bytes C0 hw fl_Op_27 d_Op_open_5 (fun H locs hw => ?_)
  obtain ⟨q2, eq2, h⟩ := ok_n h
  rw [← eq2] at hw
  refine lv_aload_n hx hb d_Op_open_8 rfl (lv_at hl 0 rfl) ?_
  refine gfK_6_code C0 hw fl_Op_15 d_Op_open_9 ?_
  refine gfK_5_mod C0 hw fl_Op_31 d_Op_open_12 ?_
  refine lv_iconst (v := (3 : Int32)) hx hb d_Op_open_15 (by decide) ?_
  refine lv_icmp_eq (tgt := 45) hx hb d_Op_open_16 (by decide) (fun c3 => ?_) (fun c3 => ?_)
  · have h := ok_t h c3
    exact w_Op_open_45 o C0 q2 h H locs ls hw (lv_sub hl [] rfl)
  · have h := ok_f h c3
    refine lv_aload_n hx hb d_Op_open_19 rfl (lv_at hl 0 rfl) ?_
    refine gfK_6_code C0 hw fl_Op_15 d_Op_open_20 ?_
    refine gfK_5_opcode C0 hw fl_Op_36 d_Op_open_23 ?_
    refine lv_sipush (v := (141 : Int32)) hx hb d_Op_open_26 (by decide) ?_
    refine lv_icmp_eq (tgt := 45) hx hb d_Op_open_29 (by decide) (fun c4 => ?_) (fun c4 => ?_)
    · have h := ok_t h c4
      exact w_Op_open_45 o C0 q2 h H locs ls hw (lv_sub hl [] rfl)
    · have h := ok_f h c4
      refine lv_aload_n hx hb d_Op_open_32 rfl (lv_at hl 0 rfl) ?_
      refine gfK_6_code C0 hw fl_Op_15 d_Op_open_33 ?_
      refine gfK_5_opcode C0 hw fl_Op_36 d_Op_open_36 ?_
      refine lv_sipush (v := (143 : Int32)) hx hb d_Op_open_39 (by decide) ?_
      refine lv_icmp_ne (tgt := 47) hx hb d_Op_open_42 (by decide) (fun c5 => ?_) (fun c5 => ?_)
      · have h := ok_f h c5
        refine lv_aload_n hx hb d_Op_open_47 rfl (lv_at hl 0 rfl) ?_
        refine lv_aload_n hx hb d_Op_open_48 rfl (lv_at hl 0 rfl) ?_
        refine gfK_6_code C0 hw fl_Op_15 d_Op_open_49 ?_
        refine lv_lconst (v := (0 : Int64)) hx hb d_Op_open_52 (by decide) ?_
        obtain ⟨r6, er6, h⟩ := ok_b h
        refine z_vl (rest := [.ref (ad 6)]) C0 hw (c_De_placeOfE (0 : Int64) q2 r6 er6) mw_De_placeOfE ml_Op_39 5 rfl ⟨Nat.le_of_ble_eq_true rfl, Nat.le_of_ble_eq_true rfl⟩ ⟨Nat.le_refl 0, Nat.le_refl 0⟩ rfl hl.1 rfl (Nat.le_of_ble_eq_true rfl) d_Op_open_53 (fun H locs hw => ?_)
        refine lv_aload_n hx hb d_Op_open_56 rfl (lv_at hl 0 rfl) ?_
        obtain ⟨r7, er7, h⟩ := ok_b h
        refine z_vl (rest := [.long r6, .ref (ad 6)]) C0 hw (c_Op_bitDistance q2 r7 er7) mw_Op_bitDistance ml_Op_43 6 rfl ⟨Nat.le_of_ble_eq_true rfl, Nat.le_of_ble_eq_true rfl⟩ ⟨Nat.le_refl 0, Nat.le_refl 0⟩ rfl hl.1 rfl (Nat.le_of_ble_eq_true rfl) d_Op_open_57 (fun H locs hw => ?_)
        refine lv_ladd hx hb d_Op_open_60 ?_
        refine lv_aload_n hx hb d_Op_open_61 rfl (lv_at hl 0 rfl) ?_
        obtain ⟨r8, er8, h⟩ := ok_b h
        refine z_vi (rest := [.long (r6 + r7), .ref (ad 6)]) C0 hw (c_Op_isWritten q2 r8 er8) mw_Op_isWritten ml_Op_47 6 rfl ⟨Nat.le_of_ble_eq_true rfl, Nat.le_of_ble_eq_true rfl⟩ ⟨Nat.le_refl 0, Nat.le_refl 0⟩ rfl hl.1 rfl (Nat.le_of_ble_eq_true rfl) d_Op_open_62 (fun H locs hw => ?_)
        obtain ⟨r9, er9, h⟩ := ok_b h
        refine z_vi (rest := []) C0 hw (c_Op_openAt (r6 + r7) r8 q2 r9 er9) mw_Op_openAt ml_Op_51 6 rfl ⟨Nat.le_of_ble_eq_true rfl, Nat.le_of_ble_eq_true rfl⟩ ⟨Nat.le_refl 0, Nat.le_refl 0⟩ rfl hl.1 rfl (Nat.le_of_ble_eq_true rfl) d_Op_open_65 (fun H locs hw => ?_)
        have ho := Option.some.inj h
        subst ho
        exact z_rti C0 hw d_Op_open_68
      · have h := ok_t h c5
        exact w_Op_open_45 o C0 q2 h H locs ls hw (lv_sub hl [] rfl)
def k_Co_step_106 (x1 : Int32) (q : z_Sg) : Option (Int32 × z_Sg) :=
  some (x1, q)
def k_Co_step_87 (x1 : Int32) (q : z_Sg) : Option (Int32 × z_Sg) :=
  if x1 = (-1 : Int32) then (z_nm (z_sL q 0 (z_gL q 10)) (fun q8 => k_Co_step_106 x1 q8)) else (k_Co_step_106 x1 q)
def k_Co_step_86 (t0 : Int32) (q : z_Sg) : Option (Int32 × z_Sg) :=
  k_Co_step_87 t0 q
def k_Co_step_50 (x1 : Int32) (q : z_Sg) : Option (Int32 × z_Sg) :=
  if x1 = (-2 : Int32) then (if (256 : Int32) ≤ (z_gI q 11) then ((f_Tw_execute q).bind (fun r10 => k_Co_step_86 r10.1 r10.2)) else ((f_On_execute q).bind (fun r11 => k_Co_step_86 r11.1 r11.2))) else (k_Co_step_87 x1 q)
def k_Co_step_21 (x1 : Int32) (q : z_Sg) : Option (Int32 × z_Sg) :=
  if x1 = (-1 : Int32) then ((f_Fl_execute q).bind (fun r4 => if r4.1 = (-2 : Int32) then ((f_Sr_execute r4.2).bind (fun r12 => k_Co_step_50 r12.1 r12.2)) else (k_Co_step_50 r4.1 r4.2))) else (some (x1, q))
def f_Co_step (q : z_Sg) : Option (Int32 × z_Sg) :=
  (f_De_decode q).bind (fun r1 => if r1.1 = (-1 : Int32) then ((f_Op_open r1.2).bind (fun r13 => k_Co_step_21 r13.1 r13.2)) else (k_Co_step_21 r1.1 r1.2))
set_option maxHeartbeats 4000000 in
set_option maxRecDepth 100000 in
theorem w_Co_step_106 {p : Program} {l : Launch} {e : Env} {s : State} {m : MethodId} {args : Array Value} {below : List Frame} {meth : Method} {c : Code} {D : va_G} {A : Nat → Prop} {ad : Nat → Nat} {ca : Nat → ClassId} (o : (Int32 × z_Sg)) (C0 : z_cx z_RCo b_Co_step 2 (some .int) D (z_Kt ca) A p s m args meth c) (q : z_Sg) (x1 : Int32) (h : k_Co_step_106 x1 q = some o) : ∀ (H : Heap) (locs : List Loc) (ls : Array Slot), z_wd D (z_K ad ca q) A s H locs → lv_has ls 2 [(1, .int x1)] → W p l e (z_rm 6 165) s m args below meth c H locs 0 0 (z_qi below D (z_Kt ca) (z_K ad ca o.2) A s args o.1) (F0 m 106 ls []) := by
  obtain ⟨hx, hb, hr, hlk, hml, hown, hts, hK, hA⟩ := id C0
  intro H locs ls hw hl
  refine lv_iload_n hx hb d_Co_step_106 rfl (lv_at hl 0 rfl) ?_
  have ho := Option.some.inj h
  subst ho
  exact z_rti C0 hw d_Co_step_107
set_option maxHeartbeats 4000000 in
set_option maxRecDepth 100000 in
theorem w_Co_step_87 {p : Program} {l : Launch} {e : Env} {s : State} {m : MethodId} {args : Array Value} {below : List Frame} {meth : Method} {c : Code} {D : va_G} {A : Nat → Prop} {ad : Nat → Nat} {ca : Nat → ClassId} (o : (Int32 × z_Sg)) (C0 : z_cx z_RCo b_Co_step 2 (some .int) D (z_Kt ca) A p s m args meth c) (q : z_Sg) (x1 : Int32) (h : k_Co_step_87 x1 q = some o) : ∀ (H : Heap) (locs : List Loc) (ls : Array Slot), z_wd D (z_K ad ca q) A s H locs → lv_has ls 2 [(0, .ref (ad 0)), (1, .int x1)] → W p l e (z_rm 6 165) s m args below meth c H locs 0 0 (z_qi below D (z_Kt ca) (z_K ad ca o.2) A s args o.1) (F0 m 87 ls []) := by
  obtain ⟨hx, hb, hr, hlk, hml, hown, hts, hK, hA⟩ := id C0
  intro H locs ls hw hl
  refine lv_iload_n hx hb d_Co_step_87 rfl (lv_at hl 1 rfl) ?_
  refine lv_iconst (v := (-1 : Int32)) hx hb d_Co_step_88 (by decide) ?_
  refine lv_icmp_ne (tgt := 106) hx hb d_Co_step_89 (by decide) (fun c7 => ?_) (fun c7 => ?_)
  · have h := ok_f h c7
    exact w_Co_step_106 o C0 q x1 h H locs ls hw (lv_sub hl [1] rfl)
  · have h := ok_t h c7
    refine lv_aload_n hx hb d_Co_step_92 rfl (lv_at hl 0 rfl) ?_
    refine gfK_0_state C0 hw fl_Co_12 d_Co_step_93 ?_
    refine lv_aload_n hx hb d_Co_step_96 rfl (lv_at hl 0 rfl) ?_
    refine gfK_0_decoder C0 hw fl_Co_30 d_Co_step_97 ?_
    refine gfK_5_onward C0 hw fl_Co_156 d_Co_step_100 ?_
    refine pfK_1_next C0 hw fl_Co_108 d_Co_step_103 (fun H locs hw => ?_)
    obtain ⟨q8, eq8, h⟩ := ok_n h
    rw [← eq8] at hw
    exact w_Co_step_106 o C0 q8 x1 h H locs ls hw (lv_sub hl [1] rfl)
set_option maxHeartbeats 4000000 in
set_option maxRecDepth 100000 in
theorem w_Co_step_86 {p : Program} {l : Launch} {e : Env} {s : State} {m : MethodId} {args : Array Value} {below : List Frame} {meth : Method} {c : Code} {D : va_G} {A : Nat → Prop} {ad : Nat → Nat} {ca : Nat → ClassId} (o : (Int32 × z_Sg)) (C0 : z_cx z_RCo b_Co_step 2 (some .int) D (z_Kt ca) A p s m args meth c) (q : z_Sg) (t0 : Int32) (h : k_Co_step_86 t0 q = some o) : ∀ (H : Heap) (locs : List Loc) (ls : Array Slot), z_wd D (z_K ad ca q) A s H locs → lv_has ls 2 [(0, .ref (ad 0))] → W p l e (z_rm 6 165) s m args below meth c H locs 0 0 (z_qi below D (z_Kt ca) (z_K ad ca o.2) A s args o.1) (F0 m 86 ls [.int t0]) := by
  obtain ⟨hx, hb, hr, hlk, hml, hown, hts, hK, hA⟩ := id C0
  intro H locs ls hw hl
  refine lv_istore_n (lv' := [(1, .int t0), (0, .ref (ad 0))]) hx hb d_Co_step_86 rfl hl (by decide) rfl (fun ls hl => ?_)
  exact w_Co_step_87 o C0 q t0 h H locs ls hw (lv_sub hl [1, 0] rfl)
set_option maxHeartbeats 4000000 in
set_option maxRecDepth 100000 in
theorem w_Co_step_50 {p : Program} {l : Launch} {e : Env} {s : State} {m : MethodId} {args : Array Value} {below : List Frame} {meth : Method} {c : Code} {D : va_G} {A : Nat → Prop} {ad : Nat → Nat} {ca : Nat → ClassId} (o : (Int32 × z_Sg)) (C0 : z_cx z_RCo b_Co_step 2 (some .int) D (z_Kt ca) A p s m args meth c) (q : z_Sg) (x1 : Int32) (h : k_Co_step_50 x1 q = some o) : ∀ (H : Heap) (locs : List Loc) (ls : Array Slot), z_wd D (z_K ad ca q) A s H locs → lv_has ls 2 [(0, .ref (ad 0)), (1, .int x1)] → W p l e (z_rm 6 165) s m args below meth c H locs 0 0 (z_qi below D (z_Kt ca) (z_K ad ca o.2) A s args o.1) (F0 m 50 ls []) := by
  obtain ⟨hx, hb, hr, hlk, hml, hown, hts, hK, hA⟩ := id C0
  intro H locs ls hw hl
  refine lv_iload_n hx hb d_Co_step_50 rfl (lv_at hl 1 rfl) ?_
  refine lv_bipush (v := (-2 : Int32)) hx hb d_Co_step_51 (by decide) ?_
  refine lv_icmp_ne (tgt := 87) hx hb d_Co_step_53 (by decide) (fun c6 => ?_) (fun c6 => ?_)
  · have h := ok_f h c6
    exact w_Co_step_87 o C0 q x1 h H locs ls hw (lv_sub hl [0, 1] rfl)
  · have h := ok_t h c6
    refine lv_aload_n hx hb d_Co_step_56 rfl (lv_at hl 0 rfl) ?_
    refine gfK_0_decoder C0 hw fl_Co_30 d_Co_step_57 ?_
    refine gfK_5_opcode C0 hw fl_Co_151 d_Co_step_60 ?_
    refine lv_sipush (v := (256 : Int32)) hx hb d_Co_step_63 (by decide) ?_
    refine lv_icmp_ge (tgt := 79) hx hb d_Co_step_66 (by decide) (fun c9 => ?_) (fun c9 => ?_)
    · have h := ok_t h c9
      refine lv_aload_n hx hb d_Co_step_79 rfl (lv_at hl 0 rfl) ?_
      refine gfK_0_twoByte C0 hw fl_Co_88 d_Co_step_80 ?_
      obtain ⟨r10, er10, h⟩ := ok_b h
      refine z_vi (rest := []) C0 hw (c_Tw_execute q r10 er10) mw_Tw_execute ml_Co_155 20 rfl ⟨Nat.le_of_ble_eq_true rfl, Nat.le_of_ble_eq_true rfl⟩ ⟨Nat.le_refl 0, Nat.le_refl 0⟩ rfl hl.1 rfl (Nat.le_of_ble_eq_true rfl) d_Co_step_83 (fun H locs hw => ?_)
      exact w_Co_step_86 o C0 r10.2 r10.1 h H locs ls hw (lv_sub hl [0] rfl)
    · have h := ok_f h c9
      refine lv_aload_n hx hb d_Co_step_69 rfl (lv_at hl 0 rfl) ?_
      refine gfK_0_oneByte C0 hw fl_Co_79 d_Co_step_70 ?_
      obtain ⟨r11, er11, h⟩ := ok_b h
      refine z_vi (rest := []) C0 hw (c_On_execute q r11 er11) mw_On_execute ml_Co_154 19 rfl ⟨Nat.le_of_ble_eq_true rfl, Nat.le_of_ble_eq_true rfl⟩ ⟨Nat.le_refl 0, Nat.le_refl 0⟩ rfl hl.1 rfl (Nat.le_of_ble_eq_true rfl) d_Co_step_73 (fun H locs hw => ?_)
      refine lv_goto (tgt := 86) hx hb d_Co_step_76 (by decide) ?_
      exact w_Co_step_86 o C0 r11.2 r11.1 h H locs ls hw (lv_sub hl [0] rfl)
set_option maxHeartbeats 4000000 in
set_option maxRecDepth 100000 in
theorem w_Co_step_21 {p : Program} {l : Launch} {e : Env} {s : State} {m : MethodId} {args : Array Value} {below : List Frame} {meth : Method} {c : Code} {D : va_G} {A : Nat → Prop} {ad : Nat → Nat} {ca : Nat → ClassId} (o : (Int32 × z_Sg)) (C0 : z_cx z_RCo b_Co_step 2 (some .int) D (z_Kt ca) A p s m args meth c) (q : z_Sg) (x1 : Int32) (h : k_Co_step_21 x1 q = some o) : ∀ (H : Heap) (locs : List Loc) (ls : Array Slot), z_wd D (z_K ad ca q) A s H locs → lv_has ls 2 [(0, .ref (ad 0)), (1, .int x1)] → W p l e (z_rm 6 165) s m args below meth c H locs 0 0 (z_qi below D (z_Kt ca) (z_K ad ca o.2) A s args o.1) (F0 m 21 ls []) := by
  obtain ⟨hx, hb, hr, hlk, hml, hown, hts, hK, hA⟩ := id C0
  intro H locs ls hw hl
  refine lv_iload_n hx hb d_Co_step_21 rfl (lv_at hl 1 rfl) ?_
  refine lv_iconst (v := (-1 : Int32)) hx hb d_Co_step_22 (by decide) ?_
  refine lv_icmp_eq (tgt := 28) hx hb d_Co_step_23 (by decide) (fun c3 => ?_) (fun c3 => ?_)
  · have h := ok_t h c3
    refine lv_aload_n hx hb d_Co_step_28 rfl (lv_at hl 0 rfl) ?_
    refine gfK_0_flow C0 hw fl_Co_61 d_Co_step_29 ?_
    obtain ⟨r4, er4, h⟩ := ok_b h
    refine z_vi (rest := []) C0 hw (c_Fl_execute q r4 er4) mw_Fl_execute ml_Co_147 11 rfl ⟨Nat.le_of_ble_eq_true rfl, Nat.le_of_ble_eq_true rfl⟩ ⟨Nat.le_refl 0, Nat.le_refl 0⟩ rfl hl.1 rfl (Nat.le_of_ble_eq_true rfl) d_Co_step_32 (fun H locs hw => ?_)
    refine lv_istore_n (lv' := [(1, .int r4.1), (0, .ref (ad 0))]) hx hb d_Co_step_35 rfl hl (by decide) rfl (fun ls hl => ?_)
    refine lv_iload_n hx hb d_Co_step_36 rfl (lv_at hl 0 rfl) ?_
    refine lv_bipush (v := (-2 : Int32)) hx hb d_Co_step_37 (by decide) ?_
    refine lv_icmp_ne (tgt := 50) hx hb d_Co_step_39 (by decide) (fun c5 => ?_) (fun c5 => ?_)
    · have h := ok_f h c5
      exact w_Co_step_50 o C0 r4.2 r4.1 h H locs ls hw (lv_sub hl [1, 0] rfl)
    · have h := ok_t h c5
      refine lv_aload_n hx hb d_Co_step_42 rfl (lv_at hl 1 rfl) ?_
      refine gfK_0_strings C0 hw fl_Co_70 d_Co_step_43 ?_
      obtain ⟨r12, er12, h⟩ := ok_b h
      refine z_vi (rest := []) C0 hw (c_Sr_execute r4.2 r12 er12) mw_Sr_execute ml_Co_150 14 rfl ⟨Nat.le_of_ble_eq_true rfl, Nat.le_of_ble_eq_true rfl⟩ ⟨Nat.le_refl 0, Nat.le_refl 0⟩ rfl hl.1 rfl (Nat.le_of_ble_eq_true rfl) d_Co_step_46 (fun H locs hw => ?_)
      refine lv_istore_n (lv' := [(1, .int r12.1), (0, .ref (ad 0))]) hx hb d_Co_step_49 rfl hl (by decide) rfl (fun ls hl => ?_)
      exact w_Co_step_50 o C0 r12.2 r12.1 h H locs ls hw (lv_sub hl [1, 0] rfl)
  · have h := ok_f h c3
    refine lv_iload_n hx hb d_Co_step_26 rfl (lv_at hl 1 rfl) ?_
    have ho := Option.some.inj h
    subst ho
    exact z_rti C0 hw d_Co_step_27
set_option maxHeartbeats 4000000 in
set_option maxRecDepth 100000 in
theorem c_Co_step {l : Launch} {D : va_G} {ad : Nat → Nat} {ca : Nat → ClassId} (q : z_Sg) (o : (Int32 × z_Sg)) (h : f_Co_step q = some o) : z_ci l y_Co_step b_Co_step 2 (some .int) 6 165 D (z_Kt ca) (z_K ad ca q) (z_K ad ca o.2) [.ref (ad 0)] o.1 := by
  refine z_ci_of (own := z_RCo) (by decide) rfl ?_
  intro p e s m below meth c A C0 hw
  obtain ⟨hx, hb, hr, hlk, hml, hown, hts, hK, hA⟩ := id C0
  generalize hH : s.heap = H at hw ⊢
  generalize hlo : ([] : List Loc) = locs at hw ⊢
  refine z_entry (lv := [(0, .ref (ad 0))]) (Nat.le_of_ble_eq_true rfl) rfl (fun ls hl => ?_)
  unfold f_Co_step at h
  refine lv_aload_n hx hb d_Co_step_0 rfl (lv_at hl 0 rfl) ?_
  refine gfK_0_decoder C0 hw fl_Co_30 d_Co_step_1 ?_
  obtain ⟨r1, er1, h⟩ := ok_b h
  refine z_vi (rest := []) C0 hw (c_De_decode q r1 er1) mw_De_decode ml_Co_140 5 rfl ⟨Nat.le_of_ble_eq_true rfl, Nat.le_of_ble_eq_true rfl⟩ ⟨Nat.le_refl 0, Nat.le_refl 0⟩ rfl hl.1 rfl (Nat.le_of_ble_eq_true rfl) d_Co_step_4 (fun H locs hw => ?_)
  refine lv_istore_n (lv' := [(1, .int r1.1), (0, .ref (ad 0))]) hx hb d_Co_step_7 rfl hl (by decide) rfl (fun ls hl => ?_)
  refine lv_iload_n hx hb d_Co_step_8 rfl (lv_at hl 0 rfl) ?_
  refine lv_iconst (v := (-1 : Int32)) hx hb d_Co_step_9 (by decide) ?_
  refine lv_icmp_ne (tgt := 21) hx hb d_Co_step_10 (by decide) (fun c2 => ?_) (fun c2 => ?_)
  · have h := ok_f h c2
    exact w_Co_step_21 o C0 r1.2 r1.1 h H locs ls hw (lv_sub hl [1, 0] rfl)
  · have h := ok_t h c2
    refine lv_aload_n hx hb d_Co_step_13 rfl (lv_at hl 1 rfl) ?_
    refine gfK_0_operands C0 hw fl_Co_44 d_Co_step_14 ?_
    obtain ⟨r13, er13, h⟩ := ok_b h
    refine z_vi (rest := []) C0 hw (c_Op_open r1.2 r13 er13) mw_Op_open ml_Co_144 6 rfl ⟨Nat.le_of_ble_eq_true rfl, Nat.le_of_ble_eq_true rfl⟩ ⟨Nat.le_refl 0, Nat.le_refl 0⟩ rfl hl.1 rfl (Nat.le_of_ble_eq_true rfl) d_Co_step_17 (fun H locs hw => ?_)
    refine lv_istore_n (lv' := [(1, .int r13.1), (0, .ref (ad 0))]) hx hb d_Co_step_20 rfl hl (by decide) rfl (fun ls hl => ?_)
    exact w_Co_step_21 o C0 r13.2 r13.1 h H locs ls hw (lv_sub hl [1, 0] rfl)
def k_Co_run_11 (q : z_Sg) : Option (Int32 × z_Sg) :=
  some ((0 : Int32), q)
def kb_Co_run_15 (ih15 : Int32 × Int32 × z_Sg → Option (Int32 × z_Sg)) (x1 : Int32) (x2 : Int32) (q : z_Sg) : Option (Int32 × z_Sg) :=
  if x1 ≤ x2 then (some (x1, q)) else ((f_Co_step q).bind (fun r4 => if r4.1 = (-1 : Int32) then (z_nm (x2 + (1 : Int32)) (fun n6 => ih15 (x1, n6, r4.2))) else (some (x2, r4.2))))
def k_Co_run_15 (x1 : Int32) (x2 : Int32) (q : z_Sg) : Option (Int32 × z_Sg) := z_lo (fun ih15 a => kb_Co_run_15 ih15 a.1 a.2.1 a.2.2) 2000 (x1, x2, q)
def f_Co_run (x1 : Int32) (q : z_Sg) : Option (Int32 × z_Sg) :=
  if x1 < 0 then (k_Co_run_11 q) else (if x1 ≤ (1000 : Int32) then (k_Co_run_15 x1 (0 : Int32) q) else (k_Co_run_11 q))
set_option maxHeartbeats 4000000 in
set_option maxRecDepth 100000 in
theorem w_Co_run_11 {p : Program} {l : Launch} {e : Env} {s : State} {m : MethodId} {args : Array Value} {below : List Frame} {meth : Method} {c : Code} {D : va_G} {A : Nat → Prop} {ad : Nat → Nat} {ca : Nat → ClassId} (o : (Int32 × z_Sg)) (C0 : z_cx z_RCo b_Co_run 3 (some .int) D (z_Kt ca) A p s m args meth c) (q : z_Sg) (h : k_Co_run_11 q = some o) : ∀ (H : Heap) (locs : List Loc) (ls : Array Slot), z_wd D (z_K ad ca q) A s H locs → lv_has ls 3 [] → W p l e (z_rm 7 186) s m args below meth c H locs 0 0 (z_qi below D (z_Kt ca) (z_K ad ca o.2) A s args o.1) (F0 m 11 ls []) := by
  obtain ⟨hx, hb, hr, hlk, hml, hown, hts, hK, hA⟩ := id C0
  intro H locs ls hw hl
  refine lv_iconst (v := (0 : Int32)) hx hb d_Co_run_11 (by decide) ?_
  have ho := Option.some.inj h
  subst ho
  exact z_rti C0 hw d_Co_run_12
set_option maxHeartbeats 4000000 in
set_option maxRecDepth 100000 in
theorem wb_Co_run_15 {p : Program} {l : Launch} {e : Env} {s : State} {m : MethodId} {args : Array Value} {below : List Frame} {meth : Method} {c : Code} {D : va_G} {A : Nat → Prop} {ad : Nat → Nat} {ca : Nat → ClassId} (o : (Int32 × z_Sg)) (C0 : z_cx z_RCo b_Co_run 3 (some .int) D (z_Kt ca) A p s m args meth c) (q : z_Sg) (ih15 : Int32 × Int32 × z_Sg → Option (Int32 × z_Sg)) (hi15 : ∀ a : Int32 × Int32 × z_Sg, ih15 a = some o → ∀ (H : Heap) (locs : List Loc) (ls : Array Slot), z_wd D (z_K ad ca a.2.2) A s H locs → lv_has ls 3 [(0, .ref (ad 0)), (1, .int a.1), (2, .int a.2.1)] → W p l e (z_rm 7 186) s m args below meth c H locs 0 0 (z_qi below D (z_Kt ca) (z_K ad ca o.2) A s args o.1) (F0 m 15 ls [])) (x1 : Int32) (x2 : Int32) (h : kb_Co_run_15 ih15 x1 x2 q = some o) : ∀ (H : Heap) (locs : List Loc) (ls : Array Slot), z_wd D (z_K ad ca q) A s H locs → lv_has ls 3 [(0, .ref (ad 0)), (1, .int x1), (2, .int x2)] → W p l e (z_rm 7 186) s m args below meth c H locs 0 0 (z_qi below D (z_Kt ca) (z_K ad ca o.2) A s args o.1) (F0 m 15 ls []) := by
  obtain ⟨hx, hb, hr, hlk, hml, hown, hts, hK, hA⟩ := id C0
  intro H locs ls hw hl
  refine lv_iload_n hx hb d_Co_run_15 rfl (lv_at hl 2 rfl) ?_
  refine lv_iload_n hx hb d_Co_run_16 rfl (lv_at hl 1 rfl) ?_
  refine lv_icmp_ge (tgt := 36) hx hb d_Co_run_17 (by decide) (fun c3 => ?_) (fun c3 => ?_)
  · have h := ok_t h c3
    refine lv_iload_n hx hb d_Co_run_36 rfl (lv_at hl 1 rfl) ?_
    have ho := Option.some.inj h
    subst ho
    exact z_rti C0 hw d_Co_run_37
  · have h := ok_f h c3
    refine lv_aload_n hx hb d_Co_run_20 rfl (lv_at hl 0 rfl) ?_
    obtain ⟨r4, er4, h⟩ := ok_b h
    refine z_vi (rest := []) C0 hw (c_Co_step q r4 er4) mw_Co_step ml_Co_159 0 rfl ⟨Nat.le_of_ble_eq_true rfl, Nat.le_of_ble_eq_true rfl⟩ ⟨Nat.le_refl 0, Nat.le_refl 0⟩ rfl hl.1 rfl (Nat.le_of_ble_eq_true rfl) d_Co_run_21 (fun H locs hw => ?_)
    refine lv_iconst (v := (-1 : Int32)) hx hb d_Co_run_24 (by decide) ?_
    refine lv_icmp_eq (tgt := 30) hx hb d_Co_run_25 (by decide) (fun c5 => ?_) (fun c5 => ?_)
    · have h := ok_t h c5
      obtain ⟨n6, en6, h⟩ := ok_n h
      refine lv_iinc (v := n6) (lv' := [(2, .int n6), (0, .ref (ad 0)), (1, .int x1)]) hx hb d_Co_run_30 hl (k := 2) rfl (by rw [en6]; rfl) (by decide) rfl (fun ls hl => ?_)
      refine lv_goto (tgt := 15) hx hb d_Co_run_33 (by decide) ?_
      exact hi15 (x1, n6, r4.2) h H locs ls hw (lv_sub hl [1, 2, 0] rfl)
    · have h := ok_f h c5
      refine lv_iload_n hx hb d_Co_run_28 rfl (lv_at hl 2 rfl) ?_
      have ho := Option.some.inj h
      subst ho
      exact z_rti C0 hw d_Co_run_29
theorem w_Co_run_15 {p : Program} {l : Launch} {e : Env} {s : State} {m : MethodId} {args : Array Value} {below : List Frame} {meth : Method} {c : Code} {D : va_G} {A : Nat → Prop} {ad : Nat → Nat} {ca : Nat → ClassId} (o : (Int32 × z_Sg)) (C0 : z_cx z_RCo b_Co_run 3 (some .int) D (z_Kt ca) A p s m args meth c) (q : z_Sg) (x1 : Int32) (x2 : Int32) (h : k_Co_run_15 x1 x2 q = some o) : ∀ (H : Heap) (locs : List Loc) (ls : Array Slot), z_wd D (z_K ad ca q) A s H locs → lv_has ls 3 [(0, .ref (ad 0)), (1, .int x1), (2, .int x2)] → W p l e (z_rm 7 186) s m args below meth c H locs 0 0 (z_qi below D (z_Kt ca) (z_K ad ca o.2) A s args o.1) (F0 m 15 ls []) := by
  have key : ∀ (n : Nat) (a : Int32 × Int32 × z_Sg), z_lo (fun ih15 a => kb_Co_run_15 ih15 a.1 a.2.1 a.2.2) n a = some o → ∀ (H : Heap) (locs : List Loc) (ls : Array Slot), z_wd D (z_K ad ca a.2.2) A s H locs → lv_has ls 3 [(0, .ref (ad 0)), (1, .int a.1), (2, .int a.2.1)] → W p l e (z_rm 7 186) s m args below meth c H locs 0 0 (z_qi below D (z_Kt ca) (z_K ad ca o.2) A s args o.1) (F0 m 15 ls []) := by
    intro n
    induction n with
    | zero => intro a h; cases h
    | succ n ih => exact fun a h => wb_Co_run_15 o C0 a.2.2 (z_lo (fun ih15 a => kb_Co_run_15 ih15 a.1 a.2.1 a.2.2) n) ih a.1 a.2.1 h
  exact key 2000 (x1, x2, q) h
set_option maxHeartbeats 4000000 in
set_option maxRecDepth 100000 in
theorem c_Co_run {l : Launch} {D : va_G} {ad : Nat → Nat} {ca : Nat → ClassId} (x1 : Int32) (q : z_Sg) (o : (Int32 × z_Sg)) (h : f_Co_run x1 q = some o) : z_ci l y_Co_run b_Co_run 3 (some .int) 7 186 D (z_Kt ca) (z_K ad ca q) (z_K ad ca o.2) [.ref (ad 0), .int x1] o.1 := by
  refine z_ci_of (own := z_RCo) (by decide) rfl ?_
  intro p e s m below meth c A C0 hw
  obtain ⟨hx, hb, hr, hlk, hml, hown, hts, hK, hA⟩ := id C0
  generalize hH : s.heap = H at hw ⊢
  generalize hlo : ([] : List Loc) = locs at hw ⊢
  refine z_entry (lv := [(0, .ref (ad 0)), (1, .int x1)]) (Nat.le_of_ble_eq_true rfl) rfl (fun ls hl => ?_)
  unfold f_Co_run at h
  refine lv_iload_n hx hb d_Co_run_0 rfl (lv_at hl 1 rfl) ?_
  refine lv_if_lt (tgt := 11) hx hb d_Co_run_1 (by decide) (fun c1 => ?_) (fun c1 => ?_)
  · have h := ok_t h c1
    exact w_Co_run_11 o C0 q h H locs ls hw (lv_sub hl [] rfl)
  · have h := ok_f h c1
    refine lv_iload_n hx hb d_Co_run_4 rfl (lv_at hl 1 rfl) ?_
    refine lv_sipush (v := (1000 : Int32)) hx hb d_Co_run_5 (by decide) ?_
    refine lv_icmp_le (tgt := 13) hx hb d_Co_run_8 (by decide) (fun c2 => ?_) (fun c2 => ?_)
    · have h := ok_t h c2
      refine lv_iconst (v := (0 : Int32)) hx hb d_Co_run_13 (by decide) ?_
      refine lv_istore_n (lv' := [(2, .int (0 : Int32)), (0, .ref (ad 0)), (1, .int x1)]) hx hb d_Co_run_14 rfl hl (by decide) rfl (fun ls hl => ?_)
      exact w_Co_run_15 o C0 q x1 (0 : Int32) h H locs ls hw (lv_sub hl [1, 2, 0] rfl)
    · have h := ok_f h c2
      exact w_Co_run_11 o C0 q h H locs ls hw (lv_sub hl [] rfl)
def f_Co_look (x1 : Int32) (x2 : Int32) (x3 : Int32) (q : z_Sg) : Option Int64 :=
  (f_Co_joined x1 x2 q).bind (fun r1 => (f_Pa_locate r1 x3 q).bind (fun r2 => some r2))
set_option maxHeartbeats 4000000 in
set_option maxRecDepth 100000 in
theorem c_Co_look {l : Launch} {D : va_G} {ad : Nat → Nat} {ca : Nat → ClassId} (x1 : Int32) (x2 : Int32) (x3 : Int32) (q : z_Sg) (o : Int64) (h : f_Co_look x1 x2 x3 q = some o) : z_cl l y_Co_look b_Co_look 4 (some .long) 2 61 D (z_Kt ca) (z_K ad ca q) (z_K ad ca q) [.ref (ad 0), .int x1, .int x2, .int x3] o := by
  refine z_cl_of (own := z_RCo) (by decide) rfl ?_
  intro p e s m below meth c A C0 hw
  obtain ⟨hx, hb, hr, hlk, hml, hown, hts, hK, hA⟩ := id C0
  generalize hH : s.heap = H at hw ⊢
  generalize hlo : ([] : List Loc) = locs at hw ⊢
  refine z_entry (lv := [(0, .ref (ad 0)), (1, .int x1), (2, .int x2), (3, .int x3)]) (Nat.le_of_ble_eq_true rfl) rfl (fun ls hl => ?_)
  unfold f_Co_look at h
  refine lv_aload_n hx hb d_Co_look_0 rfl (lv_at hl 0 rfl) ?_
  refine gfK_0_pages C0 hw fl_Co_21 d_Co_look_1 ?_
  refine lv_iload_n hx hb d_Co_look_4 rfl (lv_at hl 1 rfl) ?_
  refine lv_iload_n hx hb d_Co_look_5 rfl (lv_at hl 2 rfl) ?_
  obtain ⟨r1, er1, h⟩ := ok_b h
  refine z_sl (rest := [.ref (ad 3)]) C0 hw (c_Co_joined x1 x2 q r1 er1) mw_Co_joined ml_Co_100 ⟨Nat.le_of_ble_eq_true rfl, Nat.le_of_ble_eq_true rfl⟩ ⟨Nat.le_refl 0, Nat.le_refl 0⟩ rfl hl.1 rfl (Nat.le_of_ble_eq_true rfl) d_Co_look_6 (fun H locs hw => ?_)
  refine lv_iload_n hx hb d_Co_look_9 rfl (lv_at hl 3 rfl) ?_
  obtain ⟨r2, er2, h⟩ := ok_b h
  refine z_vl (rest := []) C0 hw (c_Pa_locate r1 x3 q r2 er2) mw_Pa_locate ml_Co_162 3 rfl ⟨Nat.le_of_ble_eq_true rfl, Nat.le_of_ble_eq_true rfl⟩ ⟨Nat.le_refl 0, Nat.le_refl 0⟩ rfl hl.1 rfl (Nat.le_of_ble_eq_true rfl) d_Co_look_10 (fun H locs hw => ?_)
  have ho := Option.some.inj h
  subst ho
  exact z_rtl C0 hw d_Co_look_13
