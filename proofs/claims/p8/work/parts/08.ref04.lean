def k_Mo_divide_474 (ih455 : Int32 × z_Sg → Option z_Sg) (x21 : Int32) (q : z_Sg) : Option z_Sg :=
  z_nm (x21 + (1 : Int32)) (fun n33 => ih455 (n33, q))
def kb_Mo_divide_455 (ih455 : Int32 × z_Sg → Option z_Sg) (x21 : Int32) (q : z_Sg) : Option z_Sg :=
  if (7 : Int32) ≤ x21 then (some q) else (if x21 = (5 : Int32) then (k_Mo_divide_474 ih455 x21 q) else ((f_Mo_leave x21 q).bind (fun r34 => k_Mo_divide_474 ih455 x21 r34)))
def k_Mo_divide_455 (x21 : Int32) (q : z_Sg) : Option z_Sg := z_lo (fun ih455 a => kb_Mo_divide_455 ih455 a.1 a.2) 2000 (x21, q)
def k_Mo_divide_452 (q : z_Sg) : Option z_Sg :=
  k_Mo_divide_455 (0 : Int32) q
def k_Mo_divide_404 (x3 : Int32) (x17 : Int64) (t0 : Int64) (q : z_Sg) : Option z_Sg :=
  if x3 = (1 : Int32) then ((f_Mo_lowest t0 (1 : Int32) q).bind (fun r35 => (f_Mo_lowest x17 (1 : Int32) q).bind (fun r36 => (f_Mo_put8 (0 : Int32) (2 : Int32) ((z_lshl r35 (8 : Int32)) ||| r36) q).bind (fun r37 => k_Mo_divide_452 r37)))) else ((f_Mo_put8 (0 : Int32) x3 x17 q).bind (fun r29 => (f_Mo_put8 (2 : Int32) x3 t0 r29).bind (fun r30 => k_Mo_divide_452 r30)))
def k_Mo_divide_385 (x3 : Int32) (x8 : Int32) (t0 : Int64) (q : z_Sg) : Option z_Sg :=
  if x8 = 0 then (k_Mo_divide_404 x3 t0 (z_gL q 9) q) else (k_Mo_divide_404 x3 t0 (-(z_gL q 9)) q)
def k_Mo_divide_368 (x3 : Int32) (x8 : Int32) (x11 : Int32) (q : z_Sg) : Option z_Sg :=
  if x11 = 0 then (k_Mo_divide_385 x3 x8 (z_gL q 8) q) else (k_Mo_divide_385 x3 x8 (-(z_gL q 8)) q)
def k_Mo_divide_356 (x3 : Int32) (x8 : Int32) (x11 : Int32) (t0 : Int32) (q : z_Sg) : Option z_Sg :=
  if t0 = 0 then ((f_Mo_refuse (0 : Int32) q).bind (fun r38 => k_Mo_divide_368 x3 x8 x11 r38)) else (k_Mo_divide_368 x3 x8 x11 q)
def k_Mo_divide_351 (x3 : Int32) (x8 : Int32) (x11 : Int32) (q : z_Sg) : Option z_Sg :=
  k_Mo_divide_356 x3 x8 x11 (1 : Int32) q
def k_Mo_divide_355 (x3 : Int32) (x8 : Int32) (x11 : Int32) (q : z_Sg) : Option z_Sg :=
  k_Mo_divide_356 x3 x8 x11 (0 : Int32) q
def k_Mo_divide_313 (x3 : Int32) (x8 : Int32) (x11 : Int32) (q : z_Sg) : Option z_Sg :=
  k_Mo_divide_356 x3 x8 x11 (1 : Int32) q
def k_Mo_divide_272 (x3 : Int32) (x4 : Int32) (x8 : Int32) (x11 : Int32) (t0 : Int64) (t1 : Int32) (q : z_Sg) : Option z_Sg :=
  z_nm ((z_lushr t0 t1)) (fun n21 => z_nm (((z_gL q 8) - n21)) (fun n22 => if x4 = 0 then (if x3 = (8 : Int32) then (k_Mo_divide_313 x3 x8 x11 q) else (if (n21 + (-9223372036854775808 : Int64)) < ((z_gL q 8) + (-9223372036854775808 : Int64)) then (k_Mo_divide_356 x3 x8 x11 (0 : Int32) q) else (k_Mo_divide_313 x3 x8 x11 q))) else (if ((z_gL q 8) + (-9223372036854775808 : Int64)) ≤ (n21 + (-9223372036854775808 : Int64)) then (k_Mo_divide_351 x3 x8 x11 q) else (if x11 = 0 then (k_Mo_divide_355 x3 x8 x11 q) else (if n22 = (1 : Int64) then (k_Mo_divide_351 x3 x8 x11 q) else (k_Mo_divide_355 x3 x8 x11 q))))))
def k_Mo_divide_241 (x3 : Int32) (x4 : Int32) (x8 : Int32) (x11 : Int32) (t1 : Int64) (q : z_Sg) : Option z_Sg :=
  (f_Mo_quotient t1 (64 : Int32) q).bind (fun r17 => if r17.1 = 0 then ((f_Mo_refuse (0 : Int32) r17.2).bind (fun r43 => some r43)) else ((f_Mo_lowest (-1 : Int64) x3 r17.2).bind (fun r19 => if x4 = 0 then (k_Mo_divide_272 x3 x4 x8 x11 r19 (0 : Int32) r17.2) else (k_Mo_divide_272 x3 x4 x8 x11 r19 (1 : Int32) r17.2))))
def k_Mo_divide_239 (x3 : Int32) (x4 : Int32) (x8 : Int32) (x9 : Int64) (x11 : Int32) (q : z_Sg) : Option z_Sg :=
  k_Mo_divide_241 x3 x4 x8 x11 x9 q
def k_Mo_divide_220 (x3 : Int32) (x4 : Int32) (x8 : Int32) (x9 : Int64) (x11 : Int32) (q : z_Sg) : Option z_Sg :=
  if x4 = 0 then (k_Mo_divide_239 x3 x4 x8 x9 x11 q) else (if (0 : Int64) ≤ x9 then (k_Mo_divide_239 x3 x4 x8 x9 x11 q) else (k_Mo_divide_241 x3 x4 x8 x11 (-x9) q))
def k_Mo_divide_209 (x3 : Int32) (x4 : Int32) (x8 : Int32) (x9 : Int64) (t0 : Int32) (q : z_Sg) : Option z_Sg :=
  if x8 = 0 then (k_Mo_divide_220 x3 x4 x8 x9 t0 q) else ((f_Mo_turnSign q).bind (fun r45 => k_Mo_divide_220 x3 x4 x8 x9 t0 r45))
def k_Mo_divide_201 (x3 : Int32) (x4 : Int32) (x8 : Int32) (x9 : Int64) (t0 : Int32) (t1 : Int32) (q : z_Sg) : Option z_Sg :=
  if t0 = t1 then (k_Mo_divide_209 x3 x4 x8 x9 (0 : Int32) q) else (k_Mo_divide_209 x3 x4 x8 x9 (1 : Int32) q)
def k_Mo_divide_200 (x3 : Int32) (x4 : Int32) (x8 : Int32) (x9 : Int64) (t0 : Int32) (q : z_Sg) : Option z_Sg :=
  k_Mo_divide_201 x3 x4 x8 x9 t0 (0 : Int32) q
def k_Mo_divide_180 (x3 : Int32) (x4 : Int32) (x8 : Int32) (t0 : Int64) (q : z_Sg) : Option z_Sg :=
  if x4 = 0 then (k_Mo_divide_200 x3 x4 x8 t0 x8 q) else (if (0 : Int64) ≤ t0 then (k_Mo_divide_200 x3 x4 x8 t0 x8 q) else (k_Mo_divide_201 x3 x4 x8 t0 x8 (1 : Int32) q))
def k_Mo_divide_164 (x1 : Int64) (x3 : Int32) (x4 : Int32) (t0 : Int32) (q : z_Sg) : Option z_Sg :=
  if x4 = 0 then (k_Mo_divide_180 x3 x4 t0 x1 q) else ((f_Mo_extended x1 x3 q).bind (fun r47 => k_Mo_divide_180 x3 x4 t0 r47 q))
def k_Mo_divide_163 (x1 : Int64) (x3 : Int32) (x4 : Int32) (q : z_Sg) : Option z_Sg :=
  k_Mo_divide_164 x1 x3 x4 (0 : Int32) q
def k_Mo_divide_145 (x1 : Int64) (x3 : Int32) (x4 : Int32) (q : z_Sg) : Option z_Sg :=
  if x4 = 0 then (k_Mo_divide_163 x1 x3 x4 q) else (if (0 : Int64) ≤ (z_gL q 9) then (k_Mo_divide_163 x1 x3 x4 q) else (k_Mo_divide_164 x1 x3 x4 (1 : Int32) q))
def k_Mo_divide_142 (x1 : Int64) (x3 : Int32) (x4 : Int32) (t1 : Int64) (q : z_Sg) : Option z_Sg :=
  z_nm (z_sL q 9 t1) (fun q53 => k_Mo_divide_145 x1 x3 x4 q53)
def k_Mo_divide_97 (x1 : Int64) (x3 : Int32) (x4 : Int32) (t1 : Int64) (q : z_Sg) : Option z_Sg :=
  z_nm (z_sL q 8 t1) (fun q9 => if x4 = 0 then (k_Mo_divide_145 x1 x3 x4 q9) else (if (8 : Int32) ≤ x3 then (k_Mo_divide_145 x1 x3 x4 q9) else ((f_Mo_extended (z_gL q9 8) ((2 : Int32) * x3) q9).bind (fun r50 => z_nm (z_sL q9 8 r50) (fun q51 => if (0 : Int64) ≤ (z_gL q51 8) then (k_Mo_divide_142 x1 x3 x4 (0 : Int64) q51) else (k_Mo_divide_142 x1 x3 x4 (-1 : Int64) q51))))))
def k_Mo_divide_76 (x1 : Int64) (x3 : Int32) (x4 : Int32) (x6 : Int64) (q : z_Sg) : Option z_Sg :=
  k_Mo_divide_97 x1 x3 x4 x6 q
def k_Mo_divide_61 (x1 : Int64) (x3 : Int32) (x4 : Int32) (x5 : Int32) (x6 : Int64) (t1 : Int64) (q : z_Sg) : Option z_Sg :=
  z_nm (z_sL q 9 t1) (fun q7 => if x3 = (1 : Int32) then (k_Mo_divide_76 x1 x3 x4 x6 q7) else (if x3 = (8 : Int32) then (k_Mo_divide_76 x1 x3 x4 x6 q7) else (if z_bad (2 : Int32) 16 then none else ((f_Mo_lowest (z_gM q7 0 (2 : Int32).toNatClampNeg) x3 q7).bind (fun r56 => k_Mo_divide_97 x1 x3 x4 ((z_lshl r56 x5) ||| x6) q7)))))
def k_Mo_divide_39 (x1 : Int64) (x3 : Int32) (x4 : Int32) (x5 : Int32) (t1 : Int32) (t2 : Int32) (q : z_Sg) : Option z_Sg :=
  (f_Mo_get8 t1 t2 q).bind (fun r5 => if x3 = (8 : Int32) then (if z_bad (2 : Int32) 16 then none else (k_Mo_divide_61 x1 x3 x4 x5 r5 (z_gM q 0 (2 : Int32).toNatClampNeg) q)) else (k_Mo_divide_61 x1 x3 x4 x5 r5 (0 : Int64) q))
def f_Mo_divide (x1 : Int64) (x3 : Int32) (x4 : Int32) (q : z_Sg) : Option z_Sg :=
  if (z_gI q 4) = (-1 : Int32) then (if x1 = (0 : Int64) then ((f_Mo_refuse (0 : Int32) q).bind (fun r58 => some r58)) else (z_nm (((8 : Int32) * x3)) (fun n3 => if x3 = (1 : Int32) then (k_Mo_divide_39 x1 x3 x4 n3 (0 : Int32) (2 : Int32) q) else (k_Mo_divide_39 x1 x3 x4 n3 (0 : Int32) x3 q)))) else (some q)
set_option maxHeartbeats 4000000 in
set_option maxRecDepth 100000 in
theorem w_Mo_divide_474 {p : Program} {l : Launch} {e : Env} {s : State} {m : MethodId} {args : Array Value} {below : List Frame} {meth : Method} {c : Code} {D : va_G} {A : Nat → Prop} {ad : Nat → Nat} {ca : Nat → ClassId} (o : z_Sg) (C0 : z_cx z_RMo b_Mo_divide 22 none D (z_Mt ca) A p s m args meth c) (q : z_Sg) (ih455 : Int32 × z_Sg → Option z_Sg) (hi455 : ∀ a : Int32 × z_Sg, ih455 a = some o → ∀ (H : Heap) (locs : List Loc) (ls : Array Slot), z_wd D (z_M ad ca a.2) A s H locs → lv_has ls 22 [(0, .ref (ad 0)), (21, .int a.1)] → W p l e (z_rm 2 49) s m args below meth c H locs 0 0 (z_qv below D (z_Mt ca) (z_M ad ca o) A s args) (F0 m 455 ls [])) (x21 : Int32) (h : k_Mo_divide_474 ih455 x21 q = some o) : ∀ (H : Heap) (locs : List Loc) (ls : Array Slot), z_wd D (z_M ad ca q) A s H locs → lv_has ls 22 [(0, .ref (ad 0)), (21, .int x21)] → W p l e (z_rm 2 49) s m args below meth c H locs 0 0 (z_qv below D (z_Mt ca) (z_M ad ca o) A s args) (F0 m 474 ls []) := by
  obtain ⟨hx, hb, hr, hlk, hml, hown, hts, hK, hA⟩ := id C0
  intro H locs ls hw hl
  obtain ⟨n33, en33, h⟩ := ok_n h
  refine lv_iinc (v := n33) (lv' := [(21, .int n33), (0, .ref (ad 0))]) hx hb d_Mo_divide_474 hl (k := 1) rfl (by rw [en33]; rfl) (by decide) rfl (fun ls hl => ?_)
  refine lv_goto (tgt := 455) hx hb d_Mo_divide_477 (by decide) ?_
  exact hi455 (n33, q) h H locs ls hw (lv_sub hl [1, 0] rfl)
set_option maxHeartbeats 4000000 in
set_option maxRecDepth 100000 in
theorem wb_Mo_divide_455 {p : Program} {l : Launch} {e : Env} {s : State} {m : MethodId} {args : Array Value} {below : List Frame} {meth : Method} {c : Code} {D : va_G} {A : Nat → Prop} {ad : Nat → Nat} {ca : Nat → ClassId} (o : z_Sg) (C0 : z_cx z_RMo b_Mo_divide 22 none D (z_Mt ca) A p s m args meth c) (q : z_Sg) (ih455 : Int32 × z_Sg → Option z_Sg) (hi455 : ∀ a : Int32 × z_Sg, ih455 a = some o → ∀ (H : Heap) (locs : List Loc) (ls : Array Slot), z_wd D (z_M ad ca a.2) A s H locs → lv_has ls 22 [(0, .ref (ad 0)), (21, .int a.1)] → W p l e (z_rm 2 49) s m args below meth c H locs 0 0 (z_qv below D (z_Mt ca) (z_M ad ca o) A s args) (F0 m 455 ls [])) (x21 : Int32) (h : kb_Mo_divide_455 ih455 x21 q = some o) : ∀ (H : Heap) (locs : List Loc) (ls : Array Slot), z_wd D (z_M ad ca q) A s H locs → lv_has ls 22 [(0, .ref (ad 0)), (21, .int x21)] → W p l e (z_rm 2 49) s m args below meth c H locs 0 0 (z_qv below D (z_Mt ca) (z_M ad ca o) A s args) (F0 m 455 ls []) := by
  obtain ⟨hx, hb, hr, hlk, hml, hown, hts, hK, hA⟩ := id C0
  intro H locs ls hw hl
  refine lv_iload hx hb d_Mo_divide_455 (lv_at hl 1 rfl) ?_
  refine lv_bipush (v := (7 : Int32)) hx hb d_Mo_divide_457 (by decide) ?_
  refine lv_icmp_ge (tgt := 480) hx hb d_Mo_divide_459 (by decide) (fun c31 => ?_) (fun c31 => ?_)
  · have h := ok_t h c31
    have ho := Option.some.inj h
    subst ho
    exact z_rtv C0 hw d_Mo_divide_480
  · have h := ok_f h c31
    refine lv_iload hx hb d_Mo_divide_462 (lv_at hl 1 rfl) ?_
    refine lv_iconst (v := (5 : Int32)) hx hb d_Mo_divide_464 (by decide) ?_
    refine lv_icmp_eq (tgt := 474) hx hb d_Mo_divide_465 (by decide) (fun c32 => ?_) (fun c32 => ?_)
    · have h := ok_t h c32
      exact w_Mo_divide_474 o C0 q ih455 hi455 x21 h H locs ls hw (lv_sub hl [0, 1] rfl)
    · have h := ok_f h c32
      refine lv_aload_n hx hb d_Mo_divide_468 rfl (lv_at hl 0 rfl) ?_
      refine lv_iload hx hb d_Mo_divide_469 (lv_at hl 1 rfl) ?_
      obtain ⟨r34, er34, h⟩ := ok_b h
      refine z_vv (rest := []) C0 hw (c_Mo_leave x21 q r34 er34) mw_Mo_leave ml_Mo_219 0 rfl ⟨Nat.le_of_ble_eq_true rfl, Nat.le_of_ble_eq_true rfl⟩ ⟨Nat.le_refl 0, Nat.le_refl 0⟩ rfl hl.1 rfl (Nat.le_of_ble_eq_true rfl) d_Mo_divide_471 (fun H locs hw => ?_)
      exact w_Mo_divide_474 o C0 r34 ih455 hi455 x21 h H locs ls hw (lv_sub hl [0, 1] rfl)
theorem w_Mo_divide_455 {p : Program} {l : Launch} {e : Env} {s : State} {m : MethodId} {args : Array Value} {below : List Frame} {meth : Method} {c : Code} {D : va_G} {A : Nat → Prop} {ad : Nat → Nat} {ca : Nat → ClassId} (o : z_Sg) (C0 : z_cx z_RMo b_Mo_divide 22 none D (z_Mt ca) A p s m args meth c) (q : z_Sg) (x21 : Int32) (h : k_Mo_divide_455 x21 q = some o) : ∀ (H : Heap) (locs : List Loc) (ls : Array Slot), z_wd D (z_M ad ca q) A s H locs → lv_has ls 22 [(0, .ref (ad 0)), (21, .int x21)] → W p l e (z_rm 2 49) s m args below meth c H locs 0 0 (z_qv below D (z_Mt ca) (z_M ad ca o) A s args) (F0 m 455 ls []) := by
  have key : ∀ (n : Nat) (a : Int32 × z_Sg), z_lo (fun ih455 a => kb_Mo_divide_455 ih455 a.1 a.2) n a = some o → ∀ (H : Heap) (locs : List Loc) (ls : Array Slot), z_wd D (z_M ad ca a.2) A s H locs → lv_has ls 22 [(0, .ref (ad 0)), (21, .int a.1)] → W p l e (z_rm 2 49) s m args below meth c H locs 0 0 (z_qv below D (z_Mt ca) (z_M ad ca o) A s args) (F0 m 455 ls []) := by
    intro n
    induction n with
    | zero => intro a h; cases h
    | succ n ih => exact fun a h => wb_Mo_divide_455 o C0 a.2 (z_lo (fun ih455 a => kb_Mo_divide_455 ih455 a.1 a.2) n) ih a.1 h
  exact key 2000 (x21, q) h
set_option maxHeartbeats 4000000 in
set_option maxRecDepth 100000 in
theorem w_Mo_divide_452 {p : Program} {l : Launch} {e : Env} {s : State} {m : MethodId} {args : Array Value} {below : List Frame} {meth : Method} {c : Code} {D : va_G} {A : Nat → Prop} {ad : Nat → Nat} {ca : Nat → ClassId} (o : z_Sg) (C0 : z_cx z_RMo b_Mo_divide 22 none D (z_Mt ca) A p s m args meth c) (q : z_Sg) (h : k_Mo_divide_452 q = some o) : ∀ (H : Heap) (locs : List Loc) (ls : Array Slot), z_wd D (z_M ad ca q) A s H locs → lv_has ls 22 [(0, .ref (ad 0))] → W p l e (z_rm 2 49) s m args below meth c H locs 0 0 (z_qv below D (z_Mt ca) (z_M ad ca o) A s args) (F0 m 452 ls []) := by
  obtain ⟨hx, hb, hr, hlk, hml, hown, hts, hK, hA⟩ := id C0
  intro H locs ls hw hl
  refine lv_iconst (v := (0 : Int32)) hx hb d_Mo_divide_452 (by decide) ?_
  refine lv_istore (lv' := [(21, .int (0 : Int32)), (0, .ref (ad 0))]) hx hb d_Mo_divide_453 hl (by decide) rfl (fun ls hl => ?_)
  exact w_Mo_divide_455 o C0 q (0 : Int32) h H locs ls hw (lv_sub hl [1, 0] rfl)
set_option maxHeartbeats 4000000 in
set_option maxRecDepth 100000 in
theorem w_Mo_divide_404 {p : Program} {l : Launch} {e : Env} {s : State} {m : MethodId} {args : Array Value} {below : List Frame} {meth : Method} {c : Code} {D : va_G} {A : Nat → Prop} {ad : Nat → Nat} {ca : Nat → ClassId} (o : z_Sg) (C0 : z_cx z_RMo b_Mo_divide 22 none D (z_Mt ca) A p s m args meth c) (q : z_Sg) (x3 : Int32) (x17 : Int64) (t0 : Int64) (h : k_Mo_divide_404 x3 x17 t0 q = some o) : ∀ (H : Heap) (locs : List Loc) (ls : Array Slot), z_wd D (z_M ad ca q) A s H locs → lv_has ls 22 [(0, .ref (ad 0)), (3, .int x3), (17, .long x17)] → W p l e (z_rm 2 49) s m args below meth c H locs 0 0 (z_qv below D (z_Mt ca) (z_M ad ca o) A s args) (F0 m 404 ls [.long t0]) := by
  obtain ⟨hx, hb, hr, hlk, hml, hown, hts, hK, hA⟩ := id C0
  intro H locs ls hw hl
  refine lv_lstore (lv' := [(19, .long t0), (0, .ref (ad 0)), (3, .int x3), (17, .long x17)]) hx hb d_Mo_divide_404 hl (by decide) rfl (fun ls hl => ?_)
  refine lv_iload_n hx hb d_Mo_divide_406 rfl (lv_at hl 2 rfl) ?_
  refine lv_iconst (v := (1 : Int32)) hx hb d_Mo_divide_407 (by decide) ?_
  refine lv_icmp_ne (tgt := 436) hx hb d_Mo_divide_408 (by decide) (fun c28 => ?_) (fun c28 => ?_)
  · have h := ok_f h c28
    refine lv_aload_n hx hb d_Mo_divide_436 rfl (lv_at hl 1 rfl) ?_
    refine lv_iconst (v := (0 : Int32)) hx hb d_Mo_divide_437 (by decide) ?_
    refine lv_iload_n hx hb d_Mo_divide_438 rfl (lv_at hl 2 rfl) ?_
    refine lv_lload hx hb d_Mo_divide_439 (lv_at hl 3 rfl) ?_
    obtain ⟨r29, er29, h⟩ := ok_b h
    refine z_vv (rest := []) C0 hw (c_Mo_put8 (0 : Int32) x3 x17 q r29 er29) mw_Mo_put8 ml_Mo_189 0 rfl ⟨Nat.le_of_ble_eq_true rfl, Nat.le_of_ble_eq_true rfl⟩ ⟨Nat.le_refl 0, Nat.le_refl 0⟩ rfl hl.1 rfl (Nat.le_of_ble_eq_true rfl) d_Mo_divide_441 (fun H locs hw => ?_)
    refine lv_aload_n hx hb d_Mo_divide_444 rfl (lv_at hl 1 rfl) ?_
    refine lv_iconst (v := (2 : Int32)) hx hb d_Mo_divide_445 (by decide) ?_
    refine lv_iload_n hx hb d_Mo_divide_446 rfl (lv_at hl 2 rfl) ?_
    refine lv_lload hx hb d_Mo_divide_447 (lv_at hl 0 rfl) ?_
    obtain ⟨r30, er30, h⟩ := ok_b h
    refine z_vv (rest := []) C0 hw (c_Mo_put8 (2 : Int32) x3 t0 r29 r30 er30) mw_Mo_put8 ml_Mo_189 0 rfl ⟨Nat.le_of_ble_eq_true rfl, Nat.le_of_ble_eq_true rfl⟩ ⟨Nat.le_refl 0, Nat.le_refl 0⟩ rfl hl.1 rfl (Nat.le_of_ble_eq_true rfl) d_Mo_divide_449 (fun H locs hw => ?_)
    exact w_Mo_divide_452 o C0 r30 h H locs ls hw (lv_sub hl [1] rfl)
  · have h := ok_t h c28
    refine lv_aload_n hx hb d_Mo_divide_411 rfl (lv_at hl 1 rfl) ?_
    refine lv_iconst (v := (0 : Int32)) hx hb d_Mo_divide_412 (by decide) ?_
    refine lv_iconst (v := (2 : Int32)) hx hb d_Mo_divide_413 (by decide) ?_
    refine lv_lload hx hb d_Mo_divide_414 (lv_at hl 0 rfl) ?_
    refine lv_iconst (v := (1 : Int32)) hx hb d_Mo_divide_416 (by decide) ?_
    obtain ⟨r35, er35, h⟩ := ok_b h
    refine z_sl (rest := [.int (2 : Int32), .int (0 : Int32), .ref (ad 0)]) C0 hw (c_Mo_lowest t0 (1 : Int32) q r35 er35) mw_Mo_lowest ml_Mo_180 ⟨Nat.le_of_ble_eq_true rfl, Nat.le_of_ble_eq_true rfl⟩ ⟨Nat.le_refl 0, Nat.le_refl 0⟩ rfl hl.1 rfl (Nat.le_of_ble_eq_true rfl) d_Mo_divide_417 (fun H locs hw => ?_)
    refine lv_bipush (v := (8 : Int32)) hx hb d_Mo_divide_420 (by decide) ?_
    refine lv_lshl (v := (z_lshl r35 (8 : Int32))) hx hb d_Mo_divide_422 rfl ?_
    refine lv_lload hx hb d_Mo_divide_423 (lv_at hl 3 rfl) ?_
    refine lv_iconst (v := (1 : Int32)) hx hb d_Mo_divide_425 (by decide) ?_
    obtain ⟨r36, er36, h⟩ := ok_b h
    refine z_sl (rest := [.long (z_lshl r35 (8 : Int32)), .int (2 : Int32), .int (0 : Int32), .ref (ad 0)]) C0 hw (c_Mo_lowest x17 (1 : Int32) q r36 er36) mw_Mo_lowest ml_Mo_180 ⟨Nat.le_of_ble_eq_true rfl, Nat.le_of_ble_eq_true rfl⟩ ⟨Nat.le_refl 0, Nat.le_refl 0⟩ rfl hl.1 rfl (Nat.le_of_ble_eq_true rfl) d_Mo_divide_426 (fun H locs hw => ?_)
    refine lv_lor hx hb d_Mo_divide_429 ?_
    obtain ⟨r37, er37, h⟩ := ok_b h
    refine z_vv (rest := []) C0 hw (c_Mo_put8 (0 : Int32) (2 : Int32) ((z_lshl r35 (8 : Int32)) ||| r36) q r37 er37) mw_Mo_put8 ml_Mo_189 0 rfl ⟨Nat.le_of_ble_eq_true rfl, Nat.le_of_ble_eq_true rfl⟩ ⟨Nat.le_refl 0, Nat.le_refl 0⟩ rfl hl.1 rfl (Nat.le_of_ble_eq_true rfl) d_Mo_divide_430 (fun H locs hw => ?_)
    refine lv_goto (tgt := 452) hx hb d_Mo_divide_433 (by decide) ?_
    exact w_Mo_divide_452 o C0 r37 h H locs ls hw (lv_sub hl [1] rfl)
set_option maxHeartbeats 4000000 in
set_option maxRecDepth 100000 in
theorem w_Mo_divide_385 {p : Program} {l : Launch} {e : Env} {s : State} {m : MethodId} {args : Array Value} {below : List Frame} {meth : Method} {c : Code} {D : va_G} {A : Nat → Prop} {ad : Nat → Nat} {ca : Nat → ClassId} (o : z_Sg) (C0 : z_cx z_RMo b_Mo_divide 22 none D (z_Mt ca) A p s m args meth c) (q : z_Sg) (x3 : Int32) (x8 : Int32) (t0 : Int64) (h : k_Mo_divide_385 x3 x8 t0 q = some o) : ∀ (H : Heap) (locs : List Loc) (ls : Array Slot), z_wd D (z_M ad ca q) A s H locs → lv_has ls 22 [(0, .ref (ad 0)), (3, .int x3), (8, .int x8)] → W p l e (z_rm 2 49) s m args below meth c H locs 0 0 (z_qv below D (z_Mt ca) (z_M ad ca o) A s args) (F0 m 385 ls [.long t0]) := by
  obtain ⟨hx, hb, hr, hlk, hml, hown, hts, hK, hA⟩ := id C0
  intro H locs ls hw hl
  refine lv_lstore (lv' := [(17, .long t0), (0, .ref (ad 0)), (3, .int x3), (8, .int x8)]) hx hb d_Mo_divide_385 hl (by decide) rfl (fun ls hl => ?_)
  refine lv_iload hx hb d_Mo_divide_387 (lv_at hl 3 rfl) ?_
  refine lv_if_eq (tgt := 400) hx hb d_Mo_divide_389 (by decide) (fun c27 => ?_) (fun c27 => ?_)
  · have h := ok_t h c27
    refine lv_aload_n hx hb d_Mo_divide_400 rfl (lv_at hl 1 rfl) ?_
    refine gfM_0_high C0 hw fl_Mo_383 d_Mo_divide_401 ?_
    exact w_Mo_divide_404 o C0 q x3 t0 (z_gL q 9) h H locs ls hw (lv_sub hl [1, 2, 0] rfl)
  · have h := ok_f h c27
    refine lv_aload_n hx hb d_Mo_divide_392 rfl (lv_at hl 1 rfl) ?_
    refine gfM_0_high C0 hw fl_Mo_383 d_Mo_divide_393 ?_
    refine lv_lneg hx hb d_Mo_divide_396 ?_
    refine lv_goto (tgt := 404) hx hb d_Mo_divide_397 (by decide) ?_
    exact w_Mo_divide_404 o C0 q x3 t0 (-(z_gL q 9)) h H locs ls hw (lv_sub hl [1, 2, 0] rfl)
set_option maxHeartbeats 4000000 in
set_option maxRecDepth 100000 in
theorem w_Mo_divide_368 {p : Program} {l : Launch} {e : Env} {s : State} {m : MethodId} {args : Array Value} {below : List Frame} {meth : Method} {c : Code} {D : va_G} {A : Nat → Prop} {ad : Nat → Nat} {ca : Nat → ClassId} (o : z_Sg) (C0 : z_cx z_RMo b_Mo_divide 22 none D (z_Mt ca) A p s m args meth c) (q : z_Sg) (x3 : Int32) (x8 : Int32) (x11 : Int32) (h : k_Mo_divide_368 x3 x8 x11 q = some o) : ∀ (H : Heap) (locs : List Loc) (ls : Array Slot), z_wd D (z_M ad ca q) A s H locs → lv_has ls 22 [(0, .ref (ad 0)), (3, .int x3), (8, .int x8), (11, .int x11)] → W p l e (z_rm 2 49) s m args below meth c H locs 0 0 (z_qv below D (z_Mt ca) (z_M ad ca o) A s args) (F0 m 368 ls []) := by
  obtain ⟨hx, hb, hr, hlk, hml, hown, hts, hK, hA⟩ := id C0
  intro H locs ls hw hl
  refine lv_iload hx hb d_Mo_divide_368 (lv_at hl 3 rfl) ?_
  refine lv_if_eq (tgt := 381) hx hb d_Mo_divide_370 (by decide) (fun c26 => ?_) (fun c26 => ?_)
  · have h := ok_t h c26
    refine lv_aload_n hx hb d_Mo_divide_381 rfl (lv_at hl 0 rfl) ?_
    refine gfM_0_low C0 hw fl_Mo_380 d_Mo_divide_382 ?_
    exact w_Mo_divide_385 o C0 q x3 x8 (z_gL q 8) h H locs ls hw (lv_sub hl [0, 1, 2] rfl)
  · have h := ok_f h c26
    refine lv_aload_n hx hb d_Mo_divide_373 rfl (lv_at hl 0 rfl) ?_
    refine gfM_0_low C0 hw fl_Mo_380 d_Mo_divide_374 ?_
    refine lv_lneg hx hb d_Mo_divide_377 ?_
    refine lv_goto (tgt := 385) hx hb d_Mo_divide_378 (by decide) ?_
    exact w_Mo_divide_385 o C0 q x3 x8 (-(z_gL q 8)) h H locs ls hw (lv_sub hl [0, 1, 2] rfl)
set_option maxHeartbeats 4000000 in
set_option maxRecDepth 100000 in
theorem w_Mo_divide_356 {p : Program} {l : Launch} {e : Env} {s : State} {m : MethodId} {args : Array Value} {below : List Frame} {meth : Method} {c : Code} {D : va_G} {A : Nat → Prop} {ad : Nat → Nat} {ca : Nat → ClassId} (o : z_Sg) (C0 : z_cx z_RMo b_Mo_divide 22 none D (z_Mt ca) A p s m args meth c) (q : z_Sg) (x3 : Int32) (x8 : Int32) (x11 : Int32) (t0 : Int32) (h : k_Mo_divide_356 x3 x8 x11 t0 q = some o) : ∀ (H : Heap) (locs : List Loc) (ls : Array Slot), z_wd D (z_M ad ca q) A s H locs → lv_has ls 22 [(0, .ref (ad 0)), (3, .int x3), (8, .int x8), (11, .int x11)] → W p l e (z_rm 2 49) s m args below meth c H locs 0 0 (z_qv below D (z_Mt ca) (z_M ad ca o) A s args) (F0 m 356 ls [.int t0]) := by
  obtain ⟨hx, hb, hr, hlk, hml, hown, hts, hK, hA⟩ := id C0
  intro H locs ls hw hl
  refine lv_istore (lv' := [(16, .int t0), (0, .ref (ad 0)), (3, .int x3), (8, .int x8), (11, .int x11)]) hx hb d_Mo_divide_356 hl (by decide) rfl (fun ls hl => ?_)
  refine lv_iload hx hb d_Mo_divide_358 (lv_at hl 0 rfl) ?_
  refine lv_if_ne (tgt := 368) hx hb d_Mo_divide_360 (by decide) (fun c25 => ?_) (fun c25 => ?_)
  · have h := ok_f h c25
    exact w_Mo_divide_368 o C0 q x3 x8 x11 h H locs ls hw (lv_sub hl [1, 2, 3, 4] rfl)
  · have h := ok_t h c25
    refine lv_aload_n hx hb d_Mo_divide_363 rfl (lv_at hl 1 rfl) ?_
    refine lv_iconst (v := (0 : Int32)) hx hb d_Mo_divide_364 (by decide) ?_
    obtain ⟨r38, er38, h⟩ := ok_b h
    refine z_vv (rest := []) C0 hw (c_Mo_refuse (0 : Int32) q r38 er38) mw_Mo_refuse ml_Mo_81 0 rfl ⟨Nat.le_of_ble_eq_true rfl, Nat.le_of_ble_eq_true rfl⟩ ⟨Nat.le_refl 0, Nat.le_refl 0⟩ rfl hl.1 rfl (Nat.le_of_ble_eq_true rfl) d_Mo_divide_365 (fun H locs hw => ?_)
    exact w_Mo_divide_368 o C0 r38 x3 x8 x11 h H locs ls hw (lv_sub hl [1, 2, 3, 4] rfl)
set_option maxHeartbeats 4000000 in
set_option maxRecDepth 100000 in
theorem w_Mo_divide_351 {p : Program} {l : Launch} {e : Env} {s : State} {m : MethodId} {args : Array Value} {below : List Frame} {meth : Method} {c : Code} {D : va_G} {A : Nat → Prop} {ad : Nat → Nat} {ca : Nat → ClassId} (o : z_Sg) (C0 : z_cx z_RMo b_Mo_divide 22 none D (z_Mt ca) A p s m args meth c) (q : z_Sg) (x3 : Int32) (x8 : Int32) (x11 : Int32) (h : k_Mo_divide_351 x3 x8 x11 q = some o) : ∀ (H : Heap) (locs : List Loc) (ls : Array Slot), z_wd D (z_M ad ca q) A s H locs → lv_has ls 22 [(0, .ref (ad 0)), (3, .int x3), (8, .int x8), (11, .int x11)] → W p l e (z_rm 2 49) s m args below meth c H locs 0 0 (z_qv below D (z_Mt ca) (z_M ad ca o) A s args) (F0 m 351 ls []) := by
  obtain ⟨hx, hb, hr, hlk, hml, hown, hts, hK, hA⟩ := id C0
  intro H locs ls hw hl
  refine lv_iconst (v := (1 : Int32)) hx hb d_Mo_divide_351 (by decide) ?_
  refine lv_goto (tgt := 356) hx hb d_Mo_divide_352 (by decide) ?_
  exact w_Mo_divide_356 o C0 q x3 x8 x11 (1 : Int32) h H locs ls hw (lv_sub hl [0, 1, 2, 3] rfl)
set_option maxHeartbeats 4000000 in
set_option maxRecDepth 100000 in
theorem w_Mo_divide_355 {p : Program} {l : Launch} {e : Env} {s : State} {m : MethodId} {args : Array Value} {below : List Frame} {meth : Method} {c : Code} {D : va_G} {A : Nat → Prop} {ad : Nat → Nat} {ca : Nat → ClassId} (o : z_Sg) (C0 : z_cx z_RMo b_Mo_divide 22 none D (z_Mt ca) A p s m args meth c) (q : z_Sg) (x3 : Int32) (x8 : Int32) (x11 : Int32) (h : k_Mo_divide_355 x3 x8 x11 q = some o) : ∀ (H : Heap) (locs : List Loc) (ls : Array Slot), z_wd D (z_M ad ca q) A s H locs → lv_has ls 22 [(0, .ref (ad 0)), (3, .int x3), (8, .int x8), (11, .int x11)] → W p l e (z_rm 2 49) s m args below meth c H locs 0 0 (z_qv below D (z_Mt ca) (z_M ad ca o) A s args) (F0 m 355 ls []) := by
  obtain ⟨hx, hb, hr, hlk, hml, hown, hts, hK, hA⟩ := id C0
  intro H locs ls hw hl
  refine lv_iconst (v := (0 : Int32)) hx hb d_Mo_divide_355 (by decide) ?_
  exact w_Mo_divide_356 o C0 q x3 x8 x11 (0 : Int32) h H locs ls hw (lv_sub hl [0, 1, 2, 3] rfl)
set_option maxHeartbeats 4000000 in
set_option maxRecDepth 100000 in
theorem w_Mo_divide_313 {p : Program} {l : Launch} {e : Env} {s : State} {m : MethodId} {args : Array Value} {below : List Frame} {meth : Method} {c : Code} {D : va_G} {A : Nat → Prop} {ad : Nat → Nat} {ca : Nat → ClassId} (o : z_Sg) (C0 : z_cx z_RMo b_Mo_divide 22 none D (z_Mt ca) A p s m args meth c) (q : z_Sg) (x3 : Int32) (x8 : Int32) (x11 : Int32) (h : k_Mo_divide_313 x3 x8 x11 q = some o) : ∀ (H : Heap) (locs : List Loc) (ls : Array Slot), z_wd D (z_M ad ca q) A s H locs → lv_has ls 22 [(0, .ref (ad 0)), (3, .int x3), (8, .int x8), (11, .int x11)] → W p l e (z_rm 2 49) s m args below meth c H locs 0 0 (z_qv below D (z_Mt ca) (z_M ad ca o) A s args) (F0 m 313 ls []) := by
  obtain ⟨hx, hb, hr, hlk, hml, hown, hts, hK, hA⟩ := id C0
  intro H locs ls hw hl
  refine lv_iconst (v := (1 : Int32)) hx hb d_Mo_divide_313 (by decide) ?_
  refine lv_goto (tgt := 356) hx hb d_Mo_divide_314 (by decide) ?_
  exact w_Mo_divide_356 o C0 q x3 x8 x11 (1 : Int32) h H locs ls hw (lv_sub hl [0, 1, 2, 3] rfl)
set_option maxHeartbeats 4000000 in
set_option maxRecDepth 100000 in
theorem w_Mo_divide_272 {p : Program} {l : Launch} {e : Env} {s : State} {m : MethodId} {args : Array Value} {below : List Frame} {meth : Method} {c : Code} {D : va_G} {A : Nat → Prop} {ad : Nat → Nat} {ca : Nat → ClassId} (o : z_Sg) (C0 : z_cx z_RMo b_Mo_divide 22 none D (z_Mt ca) A p s m args meth c) (q : z_Sg) (x3 : Int32) (x4 : Int32) (x8 : Int32) (x11 : Int32) (t0 : Int64) (t1 : Int32) (h : k_Mo_divide_272 x3 x4 x8 x11 t0 t1 q = some o) : ∀ (H : Heap) (locs : List Loc) (ls : Array Slot), z_wd D (z_M ad ca q) A s H locs → lv_has ls 22 [(0, .ref (ad 0)), (3, .int x3), (4, .int x4), (8, .int x8), (11, .int x11)] → W p l e (z_rm 2 49) s m args below meth c H locs 0 0 (z_qv below D (z_Mt ca) (z_M ad ca o) A s args) (F0 m 272 ls [.int t1, .long t0]) := by
  obtain ⟨hx, hb, hr, hlk, hml, hown, hts, hK, hA⟩ := id C0
  intro H locs ls hw hl
  refine lv_lushr (v := (z_lushr t0 t1)) hx hb d_Mo_divide_272 rfl ?_
  obtain ⟨n21, en21, h⟩ := ok_n h
  refine z_tl en21 ?_
  refine lv_lstore (lv' := [(12, .long n21), (0, .ref (ad 0)), (3, .int x3), (4, .int x4), (8, .int x8), (11, .int x11)]) hx hb d_Mo_divide_273 hl (by decide) rfl (fun ls hl => ?_)
  refine lv_aload_n hx hb d_Mo_divide_275 rfl (lv_at hl 1 rfl) ?_
  refine gfM_0_low C0 hw fl_Mo_380 d_Mo_divide_276 ?_
  refine lv_lload hx hb d_Mo_divide_279 (lv_at hl 0 rfl) ?_
  refine lv_lsub hx hb d_Mo_divide_281 ?_
  obtain ⟨n22, en22, h⟩ := ok_n h
  refine z_tl en22 ?_
  refine lv_lstore (lv' := [(14, .long n22), (12, .long n21), (0, .ref (ad 0)), (3, .int x3), (4, .int x4), (8, .int x8), (11, .int x11)]) hx hb d_Mo_divide_282 hl (by decide) rfl (fun ls hl => ?_)
  refine lv_iload hx hb d_Mo_divide_284 (lv_at hl 4 rfl) ?_
  refine lv_if_ne (tgt := 321) hx hb d_Mo_divide_286 (by decide) (fun c23 => ?_) (fun c23 => ?_)
  · have h := ok_f h c23
    refine lv_aload_n hx hb d_Mo_divide_321 rfl (lv_at hl 2 rfl) ?_
    refine gfM_0_low C0 hw fl_Mo_380 d_Mo_divide_322 ?_
    refine lv_ldc2 (own := z_RMo) hx hb hown (hts _ kl_Mo_401) d_Mo_divide_325 ?_
    refine lv_ladd hx hb d_Mo_divide_328 ?_
    refine lv_lload hx hb d_Mo_divide_329 (lv_at hl 1 rfl) ?_
    refine lv_ldc2 (own := z_RMo) hx hb hown (hts _ kl_Mo_401) d_Mo_divide_331 ?_
    refine lv_ladd hx hb d_Mo_divide_334 ?_
    refine W.lcmp hx hb d_Mo_divide_335 ?_
    refine lv_if_le (tgt := 351) hx hb d_Mo_divide_336 (by decide) (fun c24 => ?_) (fun c24 => ?_)
    · have h := ok_t h ((lg_cmp_le _ _).mp c24)
      exact w_Mo_divide_351 o C0 q x3 x8 x11 h H locs ls hw (lv_sub hl [2, 3, 5, 6] rfl)
    · have h := ok_f h (fun z => c24 ((lg_cmp_le _ _).mpr z))
      refine lv_iload hx hb d_Mo_divide_339 (lv_at hl 6 rfl) ?_
      refine lv_if_eq (tgt := 355) hx hb d_Mo_divide_341 (by decide) (fun c39 => ?_) (fun c39 => ?_)
      · have h := ok_t h c39
        exact w_Mo_divide_355 o C0 q x3 x8 x11 h H locs ls hw (lv_sub hl [2, 3, 5, 6] rfl)
      · have h := ok_f h c39
        refine lv_lload hx hb d_Mo_divide_344 (lv_at hl 0 rfl) ?_
        refine lv_lconst (v := (1 : Int64)) hx hb d_Mo_divide_346 (by decide) ?_
        refine W.lcmp hx hb d_Mo_divide_347 ?_
        refine lv_if_ne (tgt := 355) hx hb d_Mo_divide_348 (by decide) (fun c40 => ?_) (fun c40 => ?_)
        · have h := ok_f h (fun z => c40 ((lg_cmp_eq _ _).mpr z))
          exact w_Mo_divide_355 o C0 q x3 x8 x11 h H locs ls hw (lv_sub hl [2, 3, 5, 6] rfl)
        · have h := ok_t h ((lg_cmp_eq _ _).mp c40)
          exact w_Mo_divide_351 o C0 q x3 x8 x11 h H locs ls hw (lv_sub hl [2, 3, 5, 6] rfl)
  · have h := ok_t h c23
    refine lv_iload_n hx hb d_Mo_divide_289 rfl (lv_at hl 3 rfl) ?_
    refine lv_bipush (v := (8 : Int32)) hx hb d_Mo_divide_290 (by decide) ?_
    refine lv_icmp_eq (tgt := 313) hx hb d_Mo_divide_292 (by decide) (fun c41 => ?_) (fun c41 => ?_)
    · have h := ok_t h c41
      exact w_Mo_divide_313 o C0 q x3 x8 x11 h H locs ls hw (lv_sub hl [2, 3, 5, 6] rfl)
    · have h := ok_f h c41
      refine lv_aload_n hx hb d_Mo_divide_295 rfl (lv_at hl 2 rfl) ?_
      refine gfM_0_low C0 hw fl_Mo_380 d_Mo_divide_296 ?_
      refine lv_ldc2 (own := z_RMo) hx hb hown (hts _ kl_Mo_401) d_Mo_divide_299 ?_
      refine lv_ladd hx hb d_Mo_divide_302 ?_
      refine lv_lload hx hb d_Mo_divide_303 (lv_at hl 1 rfl) ?_
      refine lv_ldc2 (own := z_RMo) hx hb hown (hts _ kl_Mo_401) d_Mo_divide_305 ?_
      refine lv_ladd hx hb d_Mo_divide_308 ?_
      refine W.lcmp hx hb d_Mo_divide_309 ?_
      refine lv_if_gt (tgt := 317) hx hb d_Mo_divide_310 (by decide) (fun c42 => ?_) (fun c42 => ?_)
      · have h := ok_t h ((lg_cmp_gt _ _).mp c42)
        refine lv_iconst (v := (0 : Int32)) hx hb d_Mo_divide_317 (by decide) ?_
        refine lv_goto (tgt := 356) hx hb d_Mo_divide_318 (by decide) ?_
        exact w_Mo_divide_356 o C0 q x3 x8 x11 (0 : Int32) h H locs ls hw (lv_sub hl [2, 3, 5, 6] rfl)
      · have h := ok_f h (fun z => c42 ((lg_cmp_gt _ _).mpr z))
        exact w_Mo_divide_313 o C0 q x3 x8 x11 h H locs ls hw (lv_sub hl [2, 3, 5, 6] rfl)
set_option maxHeartbeats 4000000 in
set_option maxRecDepth 100000 in
theorem w_Mo_divide_241 {p : Program} {l : Launch} {e : Env} {s : State} {m : MethodId} {args : Array Value} {below : List Frame} {meth : Method} {c : Code} {D : va_G} {A : Nat → Prop} {ad : Nat → Nat} {ca : Nat → ClassId} (o : z_Sg) (C0 : z_cx z_RMo b_Mo_divide 22 none D (z_Mt ca) A p s m args meth c) (q : z_Sg) (x3 : Int32) (x4 : Int32) (x8 : Int32) (x11 : Int32) (t1 : Int64) (h : k_Mo_divide_241 x3 x4 x8 x11 t1 q = some o) : ∀ (H : Heap) (locs : List Loc) (ls : Array Slot), z_wd D (z_M ad ca q) A s H locs → lv_has ls 22 [(0, .ref (ad 0)), (3, .int x3), (4, .int x4), (8, .int x8), (11, .int x11)] → W p l e (z_rm 2 49) s m args below meth c H locs 0 0 (z_qv below D (z_Mt ca) (z_M ad ca o) A s args) (F0 m 241 ls [.long t1, .ref (ad 0)]) := by
  obtain ⟨hx, hb, hr, hlk, hml, hown, hts, hK, hA⟩ := id C0
  intro H locs ls hw hl
  refine lv_bipush (v := (64 : Int32)) hx hb d_Mo_divide_241 (by decide) ?_
  obtain ⟨r17, er17, h⟩ := ok_b h
  refine z_vi (rest := []) C0 hw (c_Mo_quotient t1 (64 : Int32) q r17 er17) mw_Mo_quotient ml_Mo_403 0 rfl ⟨Nat.le_of_ble_eq_true rfl, Nat.le_of_ble_eq_true rfl⟩ ⟨Nat.le_refl 0, Nat.le_refl 0⟩ rfl hl.1 rfl (Nat.le_of_ble_eq_true rfl) d_Mo_divide_243 (fun H locs hw => ?_)
  refine lv_if_ne (tgt := 255) hx hb d_Mo_divide_246 (by decide) (fun c18 => ?_) (fun c18 => ?_)
  · have h := ok_f h c18
    refine lv_ldc2 (own := z_RMo) hx hb hown (hts _ kl_Mo_71) d_Mo_divide_255 ?_
    refine lv_iload_n hx hb d_Mo_divide_258 rfl (lv_at hl 1 rfl) ?_
    obtain ⟨r19, er19, h⟩ := ok_b h
    refine z_sl (rest := []) C0 hw (c_Mo_lowest (-1 : Int64) x3 r17.2 r19 er19) mw_Mo_lowest ml_Mo_180 ⟨Nat.le_of_ble_eq_true rfl, Nat.le_of_ble_eq_true rfl⟩ ⟨Nat.le_refl 0, Nat.le_refl 0⟩ rfl hl.1 rfl (Nat.le_of_ble_eq_true rfl) d_Mo_divide_259 (fun H locs hw => ?_)
    refine lv_iload hx hb d_Mo_divide_262 (lv_at hl 2 rfl) ?_
    refine lv_if_eq (tgt := 271) hx hb d_Mo_divide_264 (by decide) (fun c20 => ?_) (fun c20 => ?_)
    · have h := ok_t h c20
      refine lv_iconst (v := (0 : Int32)) hx hb d_Mo_divide_271 (by decide) ?_
      exact w_Mo_divide_272 o C0 r17.2 x3 x4 x8 x11 r19 (0 : Int32) h H locs ls hw (lv_sub hl [0, 1, 2, 3, 4] rfl)
    · have h := ok_f h c20
      refine lv_iconst (v := (1 : Int32)) hx hb d_Mo_divide_267 (by decide) ?_
      refine lv_goto (tgt := 272) hx hb d_Mo_divide_268 (by decide) ?_
      exact w_Mo_divide_272 o C0 r17.2 x3 x4 x8 x11 r19 (1 : Int32) h H locs ls hw (lv_sub hl [0, 1, 2, 3, 4] rfl)
  · have h := ok_t h c18
    refine lv_aload_n hx hb d_Mo_divide_249 rfl (lv_at hl 0 rfl) ?_
    refine lv_iconst (v := (0 : Int32)) hx hb d_Mo_divide_250 (by decide) ?_
    obtain ⟨r43, er43, h⟩ := ok_b h
    refine z_vv (rest := []) C0 hw (c_Mo_refuse (0 : Int32) r17.2 r43 er43) mw_Mo_refuse ml_Mo_81 0 rfl ⟨Nat.le_of_ble_eq_true rfl, Nat.le_of_ble_eq_true rfl⟩ ⟨Nat.le_refl 0, Nat.le_refl 0⟩ rfl hl.1 rfl (Nat.le_of_ble_eq_true rfl) d_Mo_divide_251 (fun H locs hw => ?_)
    have ho := Option.some.inj h
    subst ho
    exact z_rtv C0 hw d_Mo_divide_254
set_option maxHeartbeats 4000000 in
set_option maxRecDepth 100000 in
theorem w_Mo_divide_239 {p : Program} {l : Launch} {e : Env} {s : State} {m : MethodId} {args : Array Value} {below : List Frame} {meth : Method} {c : Code} {D : va_G} {A : Nat → Prop} {ad : Nat → Nat} {ca : Nat → ClassId} (o : z_Sg) (C0 : z_cx z_RMo b_Mo_divide 22 none D (z_Mt ca) A p s m args meth c) (q : z_Sg) (x3 : Int32) (x4 : Int32) (x8 : Int32) (x9 : Int64) (x11 : Int32) (h : k_Mo_divide_239 x3 x4 x8 x9 x11 q = some o) : ∀ (H : Heap) (locs : List Loc) (ls : Array Slot), z_wd D (z_M ad ca q) A s H locs → lv_has ls 22 [(0, .ref (ad 0)), (3, .int x3), (4, .int x4), (8, .int x8), (9, .long x9), (11, .int x11)] → W p l e (z_rm 2 49) s m args below meth c H locs 0 0 (z_qv below D (z_Mt ca) (z_M ad ca o) A s args) (F0 m 239 ls [.ref (ad 0)]) := by
  obtain ⟨hx, hb, hr, hlk, hml, hown, hts, hK, hA⟩ := id C0
  intro H locs ls hw hl
  refine lv_lload hx hb d_Mo_divide_239 (lv_at hl 4 rfl) ?_
  exact w_Mo_divide_241 o C0 q x3 x4 x8 x11 x9 h H locs ls hw (lv_sub hl [0, 1, 2, 3, 5] rfl)
set_option maxHeartbeats 4000000 in
set_option maxRecDepth 100000 in
theorem w_Mo_divide_220 {p : Program} {l : Launch} {e : Env} {s : State} {m : MethodId} {args : Array Value} {below : List Frame} {meth : Method} {c : Code} {D : va_G} {A : Nat → Prop} {ad : Nat → Nat} {ca : Nat → ClassId} (o : z_Sg) (C0 : z_cx z_RMo b_Mo_divide 22 none D (z_Mt ca) A p s m args meth c) (q : z_Sg) (x3 : Int32) (x4 : Int32) (x8 : Int32) (x9 : Int64) (x11 : Int32) (h : k_Mo_divide_220 x3 x4 x8 x9 x11 q = some o) : ∀ (H : Heap) (locs : List Loc) (ls : Array Slot), z_wd D (z_M ad ca q) A s H locs → lv_has ls 22 [(0, .ref (ad 0)), (3, .int x3), (4, .int x4), (8, .int x8), (9, .long x9), (11, .int x11)] → W p l e (z_rm 2 49) s m args below meth c H locs 0 0 (z_qv below D (z_Mt ca) (z_M ad ca o) A s args) (F0 m 220 ls []) := by
  obtain ⟨hx, hb, hr, hlk, hml, hown, hts, hK, hA⟩ := id C0
  intro H locs ls hw hl
  refine lv_aload_n hx hb d_Mo_divide_220 rfl (lv_at hl 0 rfl) ?_
  refine lv_iload hx hb d_Mo_divide_221 (lv_at hl 2 rfl) ?_
  refine lv_if_eq (tgt := 239) hx hb d_Mo_divide_223 (by decide) (fun c16 => ?_) (fun c16 => ?_)
  · have h := ok_t h c16
    exact w_Mo_divide_239 o C0 q x3 x4 x8 x9 x11 h H locs ls hw (lv_sub hl [0, 1, 2, 3, 4, 5] rfl)
  · have h := ok_f h c16
    refine lv_lload hx hb d_Mo_divide_226 (lv_at hl 4 rfl) ?_
    refine lv_lconst (v := (0 : Int64)) hx hb d_Mo_divide_228 (by decide) ?_
    refine W.lcmp hx hb d_Mo_divide_229 ?_
    refine lv_if_ge (tgt := 239) hx hb d_Mo_divide_230 (by decide) (fun c44 => ?_) (fun c44 => ?_)
    · have h := ok_t h ((lg_cmp_ge _ _).mp c44)
      exact w_Mo_divide_239 o C0 q x3 x4 x8 x9 x11 h H locs ls hw (lv_sub hl [0, 1, 2, 3, 4, 5] rfl)
    · have h := ok_f h (fun z => c44 ((lg_cmp_ge _ _).mpr z))
      refine lv_lload hx hb d_Mo_divide_233 (lv_at hl 4 rfl) ?_
      refine lv_lneg hx hb d_Mo_divide_235 ?_
      refine lv_goto (tgt := 241) hx hb d_Mo_divide_236 (by decide) ?_
      exact w_Mo_divide_241 o C0 q x3 x4 x8 x11 (-x9) h H locs ls hw (lv_sub hl [0, 1, 2, 3, 5] rfl)
set_option maxHeartbeats 4000000 in
set_option maxRecDepth 100000 in
theorem w_Mo_divide_209 {p : Program} {l : Launch} {e : Env} {s : State} {m : MethodId} {args : Array Value} {below : List Frame} {meth : Method} {c : Code} {D : va_G} {A : Nat → Prop} {ad : Nat → Nat} {ca : Nat → ClassId} (o : z_Sg) (C0 : z_cx z_RMo b_Mo_divide 22 none D (z_Mt ca) A p s m args meth c) (q : z_Sg) (x3 : Int32) (x4 : Int32) (x8 : Int32) (x9 : Int64) (t0 : Int32) (h : k_Mo_divide_209 x3 x4 x8 x9 t0 q = some o) : ∀ (H : Heap) (locs : List Loc) (ls : Array Slot), z_wd D (z_M ad ca q) A s H locs → lv_has ls 22 [(0, .ref (ad 0)), (3, .int x3), (4, .int x4), (8, .int x8), (9, .long x9)] → W p l e (z_rm 2 49) s m args below meth c H locs 0 0 (z_qv below D (z_Mt ca) (z_M ad ca o) A s args) (F0 m 209 ls [.int t0]) := by
  obtain ⟨hx, hb, hr, hlk, hml, hown, hts, hK, hA⟩ := id C0
  intro H locs ls hw hl
  refine lv_istore (lv' := [(11, .int t0), (0, .ref (ad 0)), (3, .int x3), (4, .int x4), (8, .int x8), (9, .long x9)]) hx hb d_Mo_divide_209 hl (by decide) rfl (fun ls hl => ?_)
  refine lv_iload hx hb d_Mo_divide_211 (lv_at hl 4 rfl) ?_
  refine lv_if_eq (tgt := 220) hx hb d_Mo_divide_213 (by decide) (fun c15 => ?_) (fun c15 => ?_)
  · have h := ok_t h c15
    exact w_Mo_divide_220 o C0 q x3 x4 x8 x9 t0 h H locs ls hw (lv_sub hl [1, 2, 3, 4, 5, 0] rfl)
  · have h := ok_f h c15
    refine lv_aload_n hx hb d_Mo_divide_216 rfl (lv_at hl 1 rfl) ?_
    obtain ⟨r45, er45, h⟩ := ok_b h
    refine z_vv (rest := []) C0 hw (c_Mo_turnSign q r45 er45) mw_Mo_turnSign ml_Mo_390 0 rfl ⟨Nat.le_of_ble_eq_true rfl, Nat.le_of_ble_eq_true rfl⟩ ⟨Nat.le_refl 0, Nat.le_refl 0⟩ rfl hl.1 rfl (Nat.le_of_ble_eq_true rfl) d_Mo_divide_217 (fun H locs hw => ?_)
    exact w_Mo_divide_220 o C0 r45 x3 x4 x8 x9 t0 h H locs ls hw (lv_sub hl [1, 2, 3, 4, 5, 0] rfl)
set_option maxHeartbeats 4000000 in
set_option maxRecDepth 100000 in
theorem w_Mo_divide_201 {p : Program} {l : Launch} {e : Env} {s : State} {m : MethodId} {args : Array Value} {below : List Frame} {meth : Method} {c : Code} {D : va_G} {A : Nat → Prop} {ad : Nat → Nat} {ca : Nat → ClassId} (o : z_Sg) (C0 : z_cx z_RMo b_Mo_divide 22 none D (z_Mt ca) A p s m args meth c) (q : z_Sg) (x3 : Int32) (x4 : Int32) (x8 : Int32) (x9 : Int64) (t0 : Int32) (t1 : Int32) (h : k_Mo_divide_201 x3 x4 x8 x9 t0 t1 q = some o) : ∀ (H : Heap) (locs : List Loc) (ls : Array Slot), z_wd D (z_M ad ca q) A s H locs → lv_has ls 22 [(0, .ref (ad 0)), (3, .int x3), (4, .int x4), (8, .int x8), (9, .long x9)] → W p l e (z_rm 2 49) s m args below meth c H locs 0 0 (z_qv below D (z_Mt ca) (z_M ad ca o) A s args) (F0 m 201 ls [.int t1, .int t0]) := by
  obtain ⟨hx, hb, hr, hlk, hml, hown, hts, hK, hA⟩ := id C0
  intro H locs ls hw hl
  refine lv_icmp_eq (tgt := 208) hx hb d_Mo_divide_201 (by decide) (fun c14 => ?_) (fun c14 => ?_)
  · have h := ok_t h c14
    refine lv_iconst (v := (0 : Int32)) hx hb d_Mo_divide_208 (by decide) ?_
    exact w_Mo_divide_209 o C0 q x3 x4 x8 x9 (0 : Int32) h H locs ls hw (lv_sub hl [0, 1, 2, 3, 4] rfl)
  · have h := ok_f h c14
    refine lv_iconst (v := (1 : Int32)) hx hb d_Mo_divide_204 (by decide) ?_
    refine lv_goto (tgt := 209) hx hb d_Mo_divide_205 (by decide) ?_
    exact w_Mo_divide_209 o C0 q x3 x4 x8 x9 (1 : Int32) h H locs ls hw (lv_sub hl [0, 1, 2, 3, 4] rfl)
set_option maxHeartbeats 4000000 in
set_option maxRecDepth 100000 in
theorem w_Mo_divide_200 {p : Program} {l : Launch} {e : Env} {s : State} {m : MethodId} {args : Array Value} {below : List Frame} {meth : Method} {c : Code} {D : va_G} {A : Nat → Prop} {ad : Nat → Nat} {ca : Nat → ClassId} (o : z_Sg) (C0 : z_cx z_RMo b_Mo_divide 22 none D (z_Mt ca) A p s m args meth c) (q : z_Sg) (x3 : Int32) (x4 : Int32) (x8 : Int32) (x9 : Int64) (t0 : Int32) (h : k_Mo_divide_200 x3 x4 x8 x9 t0 q = some o) : ∀ (H : Heap) (locs : List Loc) (ls : Array Slot), z_wd D (z_M ad ca q) A s H locs → lv_has ls 22 [(0, .ref (ad 0)), (3, .int x3), (4, .int x4), (8, .int x8), (9, .long x9)] → W p l e (z_rm 2 49) s m args below meth c H locs 0 0 (z_qv below D (z_Mt ca) (z_M ad ca o) A s args) (F0 m 200 ls [.int t0]) := by
  obtain ⟨hx, hb, hr, hlk, hml, hown, hts, hK, hA⟩ := id C0
  intro H locs ls hw hl
  refine lv_iconst (v := (0 : Int32)) hx hb d_Mo_divide_200 (by decide) ?_
  exact w_Mo_divide_201 o C0 q x3 x4 x8 x9 t0 (0 : Int32) h H locs ls hw (lv_sub hl [0, 1, 2, 3, 4] rfl)
set_option maxHeartbeats 4000000 in
set_option maxRecDepth 100000 in
theorem w_Mo_divide_180 {p : Program} {l : Launch} {e : Env} {s : State} {m : MethodId} {args : Array Value} {below : List Frame} {meth : Method} {c : Code} {D : va_G} {A : Nat → Prop} {ad : Nat → Nat} {ca : Nat → ClassId} (o : z_Sg) (C0 : z_cx z_RMo b_Mo_divide 22 none D (z_Mt ca) A p s m args meth c) (q : z_Sg) (x3 : Int32) (x4 : Int32) (x8 : Int32) (t0 : Int64) (h : k_Mo_divide_180 x3 x4 x8 t0 q = some o) : ∀ (H : Heap) (locs : List Loc) (ls : Array Slot), z_wd D (z_M ad ca q) A s H locs → lv_has ls 22 [(0, .ref (ad 0)), (3, .int x3), (4, .int x4), (8, .int x8)] → W p l e (z_rm 2 49) s m args below meth c H locs 0 0 (z_qv below D (z_Mt ca) (z_M ad ca o) A s args) (F0 m 180 ls [.long t0]) := by
  obtain ⟨hx, hb, hr, hlk, hml, hown, hts, hK, hA⟩ := id C0
  intro H locs ls hw hl
  refine lv_lstore (lv' := [(9, .long t0), (0, .ref (ad 0)), (3, .int x3), (4, .int x4), (8, .int x8)]) hx hb d_Mo_divide_180 hl (by decide) rfl (fun ls hl => ?_)
  refine lv_iload hx hb d_Mo_divide_182 (lv_at hl 4 rfl) ?_
  refine lv_iload hx hb d_Mo_divide_184 (lv_at hl 3 rfl) ?_
  refine lv_if_eq (tgt := 200) hx hb d_Mo_divide_186 (by decide) (fun c13 => ?_) (fun c13 => ?_)
  · have h := ok_t h c13
    exact w_Mo_divide_200 o C0 q x3 x4 x8 t0 x8 h H locs ls hw (lv_sub hl [1, 2, 3, 4, 0] rfl)
  · have h := ok_f h c13
    refine lv_lload hx hb d_Mo_divide_189 (lv_at hl 0 rfl) ?_
    refine lv_lconst (v := (0 : Int64)) hx hb d_Mo_divide_191 (by decide) ?_
    refine W.lcmp hx hb d_Mo_divide_192 ?_
    refine lv_if_ge (tgt := 200) hx hb d_Mo_divide_193 (by decide) (fun c46 => ?_) (fun c46 => ?_)
    · have h := ok_t h ((lg_cmp_ge _ _).mp c46)
      exact w_Mo_divide_200 o C0 q x3 x4 x8 t0 x8 h H locs ls hw (lv_sub hl [1, 2, 3, 4, 0] rfl)
    · have h := ok_f h (fun z => c46 ((lg_cmp_ge _ _).mpr z))
      refine lv_iconst (v := (1 : Int32)) hx hb d_Mo_divide_196 (by decide) ?_
      refine lv_goto (tgt := 201) hx hb d_Mo_divide_197 (by decide) ?_
      exact w_Mo_divide_201 o C0 q x3 x4 x8 t0 x8 (1 : Int32) h H locs ls hw (lv_sub hl [1, 2, 3, 4, 0] rfl)
set_option maxHeartbeats 4000000 in
set_option maxRecDepth 100000 in
theorem w_Mo_divide_164 {p : Program} {l : Launch} {e : Env} {s : State} {m : MethodId} {args : Array Value} {below : List Frame} {meth : Method} {c : Code} {D : va_G} {A : Nat → Prop} {ad : Nat → Nat} {ca : Nat → ClassId} (o : z_Sg) (C0 : z_cx z_RMo b_Mo_divide 22 none D (z_Mt ca) A p s m args meth c) (q : z_Sg) (x1 : Int64) (x3 : Int32) (x4 : Int32) (t0 : Int32) (h : k_Mo_divide_164 x1 x3 x4 t0 q = some o) : ∀ (H : Heap) (locs : List Loc) (ls : Array Slot), z_wd D (z_M ad ca q) A s H locs → lv_has ls 22 [(0, .ref (ad 0)), (1, .long x1), (3, .int x3), (4, .int x4)] → W p l e (z_rm 2 49) s m args below meth c H locs 0 0 (z_qv below D (z_Mt ca) (z_M ad ca o) A s args) (F0 m 164 ls [.int t0]) := by
  obtain ⟨hx, hb, hr, hlk, hml, hown, hts, hK, hA⟩ := id C0
  intro H locs ls hw hl
  refine lv_istore (lv' := [(8, .int t0), (0, .ref (ad 0)), (1, .long x1), (3, .int x3), (4, .int x4)]) hx hb d_Mo_divide_164 hl (by decide) rfl (fun ls hl => ?_)
  refine lv_iload hx hb d_Mo_divide_166 (lv_at hl 4 rfl) ?_
  refine lv_if_eq (tgt := 179) hx hb d_Mo_divide_168 (by decide) (fun c12 => ?_) (fun c12 => ?_)
  · have h := ok_t h c12
    refine lv_lload_n hx hb d_Mo_divide_179 rfl (lv_at hl 2 rfl) ?_
    exact w_Mo_divide_180 o C0 q x3 x4 t0 x1 h H locs ls hw (lv_sub hl [1, 3, 4, 0] rfl)
  · have h := ok_f h c12
    refine lv_lload_n hx hb d_Mo_divide_171 rfl (lv_at hl 2 rfl) ?_
    refine lv_iload_n hx hb d_Mo_divide_172 rfl (lv_at hl 3 rfl) ?_
    obtain ⟨r47, er47, h⟩ := ok_b h
    refine z_sl (rest := []) C0 hw (c_Mo_extended x1 x3 q r47 er47) mw_Mo_extended ml_Mo_118 ⟨Nat.le_of_ble_eq_true rfl, Nat.le_of_ble_eq_true rfl⟩ ⟨Nat.le_refl 0, Nat.le_refl 0⟩ rfl hl.1 rfl (Nat.le_of_ble_eq_true rfl) d_Mo_divide_173 (fun H locs hw => ?_)
    refine lv_goto (tgt := 180) hx hb d_Mo_divide_176 (by decide) ?_
    exact w_Mo_divide_180 o C0 q x3 x4 t0 r47 h H locs ls hw (lv_sub hl [1, 3, 4, 0] rfl)
set_option maxHeartbeats 4000000 in
set_option maxRecDepth 100000 in
theorem w_Mo_divide_163 {p : Program} {l : Launch} {e : Env} {s : State} {m : MethodId} {args : Array Value} {below : List Frame} {meth : Method} {c : Code} {D : va_G} {A : Nat → Prop} {ad : Nat → Nat} {ca : Nat → ClassId} (o : z_Sg) (C0 : z_cx z_RMo b_Mo_divide 22 none D (z_Mt ca) A p s m args meth c) (q : z_Sg) (x1 : Int64) (x3 : Int32) (x4 : Int32) (h : k_Mo_divide_163 x1 x3 x4 q = some o) : ∀ (H : Heap) (locs : List Loc) (ls : Array Slot), z_wd D (z_M ad ca q) A s H locs → lv_has ls 22 [(0, .ref (ad 0)), (1, .long x1), (3, .int x3), (4, .int x4)] → W p l e (z_rm 2 49) s m args below meth c H locs 0 0 (z_qv below D (z_Mt ca) (z_M ad ca o) A s args) (F0 m 163 ls []) := by
  obtain ⟨hx, hb, hr, hlk, hml, hown, hts, hK, hA⟩ := id C0
  intro H locs ls hw hl
  refine lv_iconst (v := (0 : Int32)) hx hb d_Mo_divide_163 (by decide) ?_
  exact w_Mo_divide_164 o C0 q x1 x3 x4 (0 : Int32) h H locs ls hw (lv_sub hl [0, 1, 2, 3] rfl)
set_option maxHeartbeats 4000000 in
set_option maxRecDepth 100000 in
theorem w_Mo_divide_145 {p : Program} {l : Launch} {e : Env} {s : State} {m : MethodId} {args : Array Value} {below : List Frame} {meth : Method} {c : Code} {D : va_G} {A : Nat → Prop} {ad : Nat → Nat} {ca : Nat → ClassId} (o : z_Sg) (C0 : z_cx z_RMo b_Mo_divide 22 none D (z_Mt ca) A p s m args meth c) (q : z_Sg) (x1 : Int64) (x3 : Int32) (x4 : Int32) (h : k_Mo_divide_145 x1 x3 x4 q = some o) : ∀ (H : Heap) (locs : List Loc) (ls : Array Slot), z_wd D (z_M ad ca q) A s H locs → lv_has ls 22 [(0, .ref (ad 0)), (1, .long x1), (3, .int x3), (4, .int x4)] → W p l e (z_rm 2 49) s m args below meth c H locs 0 0 (z_qv below D (z_Mt ca) (z_M ad ca o) A s args) (F0 m 145 ls []) := by
  obtain ⟨hx, hb, hr, hlk, hml, hown, hts, hK, hA⟩ := id C0
  intro H locs ls hw hl
  refine lv_iload hx hb d_Mo_divide_145 (lv_at hl 3 rfl) ?_
  refine lv_if_eq (tgt := 163) hx hb d_Mo_divide_147 (by decide) (fun c11 => ?_) (fun c11 => ?_)
  · have h := ok_t h c11
    exact w_Mo_divide_163 o C0 q x1 x3 x4 h H locs ls hw (lv_sub hl [0, 1, 2, 3] rfl)
  · have h := ok_f h c11
    refine lv_aload_n hx hb d_Mo_divide_150 rfl (lv_at hl 0 rfl) ?_
    refine gfM_0_high C0 hw fl_Mo_383 d_Mo_divide_151 ?_
    refine lv_lconst (v := (0 : Int64)) hx hb d_Mo_divide_154 (by decide) ?_
    refine W.lcmp hx hb d_Mo_divide_155 ?_
    refine lv_if_ge (tgt := 163) hx hb d_Mo_divide_156 (by decide) (fun c48 => ?_) (fun c48 => ?_)
    · have h := ok_t h ((lg_cmp_ge _ _).mp c48)
      exact w_Mo_divide_163 o C0 q x1 x3 x4 h H locs ls hw (lv_sub hl [0, 1, 2, 3] rfl)
    · have h := ok_f h (fun z => c48 ((lg_cmp_ge _ _).mpr z))
      refine lv_iconst (v := (1 : Int32)) hx hb d_Mo_divide_159 (by decide) ?_
      refine lv_goto (tgt := 164) hx hb d_Mo_divide_160 (by decide) ?_
      exact w_Mo_divide_164 o C0 q x1 x3 x4 (1 : Int32) h H locs ls hw (lv_sub hl [0, 1, 2, 3] rfl)
set_option maxHeartbeats 4000000 in
set_option maxRecDepth 100000 in
theorem w_Mo_divide_142 {p : Program} {l : Launch} {e : Env} {s : State} {m : MethodId} {args : Array Value} {below : List Frame} {meth : Method} {c : Code} {D : va_G} {A : Nat → Prop} {ad : Nat → Nat} {ca : Nat → ClassId} (o : z_Sg) (C0 : z_cx z_RMo b_Mo_divide 22 none D (z_Mt ca) A p s m args meth c) (q : z_Sg) (x1 : Int64) (x3 : Int32) (x4 : Int32) (t1 : Int64) (h : k_Mo_divide_142 x1 x3 x4 t1 q = some o) : ∀ (H : Heap) (locs : List Loc) (ls : Array Slot), z_wd D (z_M ad ca q) A s H locs → lv_has ls 22 [(0, .ref (ad 0)), (1, .long x1), (3, .int x3), (4, .int x4)] → W p l e (z_rm 2 49) s m args below meth c H locs 0 0 (z_qv below D (z_Mt ca) (z_M ad ca o) A s args) (F0 m 142 ls [.long t1, .ref (ad 0)]) := by
  obtain ⟨hx, hb, hr, hlk, hml, hown, hts, hK, hA⟩ := id C0
  intro H locs ls hw hl
  refine pfM_0_high C0 hw fl_Mo_383 d_Mo_divide_142 (fun H locs hw => ?_)
  obtain ⟨q53, eq53, h⟩ := ok_n h
  rw [← eq53] at hw
  exact w_Mo_divide_145 o C0 q53 x1 x3 x4 h H locs ls hw (lv_sub hl [0, 1, 2, 3] rfl)
set_option maxHeartbeats 4000000 in
set_option maxRecDepth 100000 in
theorem w_Mo_divide_97 {p : Program} {l : Launch} {e : Env} {s : State} {m : MethodId} {args : Array Value} {below : List Frame} {meth : Method} {c : Code} {D : va_G} {A : Nat → Prop} {ad : Nat → Nat} {ca : Nat → ClassId} (o : z_Sg) (C0 : z_cx z_RMo b_Mo_divide 22 none D (z_Mt ca) A p s m args meth c) (q : z_Sg) (x1 : Int64) (x3 : Int32) (x4 : Int32) (t1 : Int64) (h : k_Mo_divide_97 x1 x3 x4 t1 q = some o) : ∀ (H : Heap) (locs : List Loc) (ls : Array Slot), z_wd D (z_M ad ca q) A s H locs → lv_has ls 22 [(0, .ref (ad 0)), (1, .long x1), (3, .int x3), (4, .int x4)] → W p l e (z_rm 2 49) s m args below meth c H locs 0 0 (z_qv below D (z_Mt ca) (z_M ad ca o) A s args) (F0 m 97 ls [.long t1, .ref (ad 0)]) := by
  obtain ⟨hx, hb, hr, hlk, hml, hown, hts, hK, hA⟩ := id C0
  intro H locs ls hw hl
  refine pfM_0_low C0 hw fl_Mo_380 d_Mo_divide_97 (fun H locs hw => ?_)
  obtain ⟨q9, eq9, h⟩ := ok_n h
  rw [← eq9] at hw
  refine lv_iload hx hb d_Mo_divide_100 (lv_at hl 3 rfl) ?_
  refine lv_if_eq (tgt := 145) hx hb d_Mo_divide_102 (by decide) (fun c10 => ?_) (fun c10 => ?_)
  · have h := ok_t h c10
    exact w_Mo_divide_145 o C0 q9 x1 x3 x4 h H locs ls hw (lv_sub hl [0, 1, 2, 3] rfl)
  · have h := ok_f h c10
    refine lv_iload_n hx hb d_Mo_divide_105 rfl (lv_at hl 2 rfl) ?_
    refine lv_bipush (v := (8 : Int32)) hx hb d_Mo_divide_106 (by decide) ?_
    refine lv_icmp_ge (tgt := 145) hx hb d_Mo_divide_108 (by decide) (fun c49 => ?_) (fun c49 => ?_)
    · have h := ok_t h c49
      exact w_Mo_divide_145 o C0 q9 x1 x3 x4 h H locs ls hw (lv_sub hl [0, 1, 2, 3] rfl)
    · have h := ok_f h c49
      refine lv_aload_n hx hb d_Mo_divide_111 rfl (lv_at hl 0 rfl) ?_
      refine lv_aload_n hx hb d_Mo_divide_112 rfl (lv_at hl 0 rfl) ?_
      refine gfM_0_low C0 hw fl_Mo_380 d_Mo_divide_113 ?_
      refine lv_iconst (v := (2 : Int32)) hx hb d_Mo_divide_116 (by decide) ?_
      refine lv_iload_n hx hb d_Mo_divide_117 rfl (lv_at hl 2 rfl) ?_
      refine lv_imul hx hb d_Mo_divide_118 ?_
      obtain ⟨r50, er50, h⟩ := ok_b h
      refine z_sl (rest := [.ref (ad 0)]) C0 hw (c_Mo_extended (z_gL q9 8) ((2 : Int32) * x3) q9 r50 er50) mw_Mo_extended ml_Mo_118 ⟨Nat.le_of_ble_eq_true rfl, Nat.le_of_ble_eq_true rfl⟩ ⟨Nat.le_refl 0, Nat.le_refl 0⟩ rfl hl.1 rfl (Nat.le_of_ble_eq_true rfl) d_Mo_divide_119 (fun H locs hw => ?_)
      refine pfM_0_low C0 hw fl_Mo_380 d_Mo_divide_122 (fun H locs hw => ?_)
      obtain ⟨q51, eq51, h⟩ := ok_n h
      rw [← eq51] at hw
      refine lv_aload_n hx hb d_Mo_divide_125 rfl (lv_at hl 0 rfl) ?_
      refine lv_aload_n hx hb d_Mo_divide_126 rfl (lv_at hl 0 rfl) ?_
      refine gfM_0_low C0 hw fl_Mo_380 d_Mo_divide_127 ?_
      refine lv_lconst (v := (0 : Int64)) hx hb d_Mo_divide_130 (by decide) ?_
      refine W.lcmp hx hb d_Mo_divide_131 ?_
      refine lv_if_ge (tgt := 141) hx hb d_Mo_divide_132 (by decide) (fun c52 => ?_) (fun c52 => ?_)
      · have h := ok_t h ((lg_cmp_ge _ _).mp c52)
        refine lv_lconst (v := (0 : Int64)) hx hb d_Mo_divide_141 (by decide) ?_
        exact w_Mo_divide_142 o C0 q51 x1 x3 x4 (0 : Int64) h H locs ls hw (lv_sub hl [0, 1, 2, 3] rfl)
      · have h := ok_f h (fun z => c52 ((lg_cmp_ge _ _).mpr z))
        refine lv_ldc2 (own := z_RMo) hx hb hown (hts _ kl_Mo_71) d_Mo_divide_135 ?_
        refine lv_goto (tgt := 142) hx hb d_Mo_divide_138 (by decide) ?_
        exact w_Mo_divide_142 o C0 q51 x1 x3 x4 (-1 : Int64) h H locs ls hw (lv_sub hl [0, 1, 2, 3] rfl)
set_option maxHeartbeats 4000000 in
set_option maxRecDepth 100000 in
theorem w_Mo_divide_76 {p : Program} {l : Launch} {e : Env} {s : State} {m : MethodId} {args : Array Value} {below : List Frame} {meth : Method} {c : Code} {D : va_G} {A : Nat → Prop} {ad : Nat → Nat} {ca : Nat → ClassId} (o : z_Sg) (C0 : z_cx z_RMo b_Mo_divide 22 none D (z_Mt ca) A p s m args meth c) (q : z_Sg) (x1 : Int64) (x3 : Int32) (x4 : Int32) (x6 : Int64) (h : k_Mo_divide_76 x1 x3 x4 x6 q = some o) : ∀ (H : Heap) (locs : List Loc) (ls : Array Slot), z_wd D (z_M ad ca q) A s H locs → lv_has ls 22 [(0, .ref (ad 0)), (1, .long x1), (3, .int x3), (4, .int x4), (6, .long x6)] → W p l e (z_rm 2 49) s m args below meth c H locs 0 0 (z_qv below D (z_Mt ca) (z_M ad ca o) A s args) (F0 m 76 ls [.ref (ad 0)]) := by
  obtain ⟨hx, hb, hr, hlk, hml, hown, hts, hK, hA⟩ := id C0
  intro H locs ls hw hl
  refine lv_lload hx hb d_Mo_divide_76 (lv_at hl 4 rfl) ?_
  refine lv_goto (tgt := 97) hx hb d_Mo_divide_78 (by decide) ?_
  exact w_Mo_divide_97 o C0 q x1 x3 x4 x6 h H locs ls hw (lv_sub hl [0, 1, 2, 3] rfl)
set_option maxHeartbeats 4000000 in
set_option maxRecDepth 100000 in
theorem w_Mo_divide_61 {p : Program} {l : Launch} {e : Env} {s : State} {m : MethodId} {args : Array Value} {below : List Frame} {meth : Method} {c : Code} {D : va_G} {A : Nat → Prop} {ad : Nat → Nat} {ca : Nat → ClassId} (o : z_Sg) (C0 : z_cx z_RMo b_Mo_divide 22 none D (z_Mt ca) A p s m args meth c) (q : z_Sg) (x1 : Int64) (x3 : Int32) (x4 : Int32) (x5 : Int32) (x6 : Int64) (t1 : Int64) (h : k_Mo_divide_61 x1 x3 x4 x5 x6 t1 q = some o) : ∀ (H : Heap) (locs : List Loc) (ls : Array Slot), z_wd D (z_M ad ca q) A s H locs → lv_has ls 22 [(0, .ref (ad 0)), (1, .long x1), (3, .int x3), (4, .int x4), (5, .int x5), (6, .long x6)] → W p l e (z_rm 2 49) s m args below meth c H locs 0 0 (z_qv below D (z_Mt ca) (z_M ad ca o) A s args) (F0 m 61 ls [.long t1, .ref (ad 0)]) := by
  obtain ⟨hx, hb, hr, hlk, hml, hown, hts, hK, hA⟩ := id C0
  intro H locs ls hw hl
  refine pfM_0_high C0 hw fl_Mo_383 d_Mo_divide_61 (fun H locs hw => ?_)
  obtain ⟨q7, eq7, h⟩ := ok_n h
  rw [← eq7] at hw
  refine lv_aload_n hx hb d_Mo_divide_64 rfl (lv_at hl 0 rfl) ?_
  refine lv_iload_n hx hb d_Mo_divide_65 rfl (lv_at hl 2 rfl) ?_
  refine lv_iconst (v := (1 : Int32)) hx hb d_Mo_divide_66 (by decide) ?_
  refine lv_icmp_eq (tgt := 76) hx hb d_Mo_divide_67 (by decide) (fun c8 => ?_) (fun c8 => ?_)
  · have h := ok_t h c8
    exact w_Mo_divide_76 o C0 q7 x1 x3 x4 x6 h H locs ls hw (lv_sub hl [0, 1, 2, 3, 5] rfl)
  · have h := ok_f h c8
    refine lv_iload_n hx hb d_Mo_divide_70 rfl (lv_at hl 2 rfl) ?_
    refine lv_bipush (v := (8 : Int32)) hx hb d_Mo_divide_71 (by decide) ?_
    refine lv_icmp_ne (tgt := 81) hx hb d_Mo_divide_73 (by decide) (fun c54 => ?_) (fun c54 => ?_)
    · have h := ok_f h c54
      refine lv_aload_n hx hb d_Mo_divide_81 rfl (lv_at hl 0 rfl) ?_
      refine gfM_0_r C0 hw fl_Mo_14 d_Mo_divide_82 ?_
      refine lv_iconst (v := (2 : Int32)) hx hb d_Mo_divide_85 (by decide) ?_
      obtain ⟨b55, h⟩ := ok_g h
      refine alM_2 C0 hw b55 d_Mo_divide_86 ?_
      refine lv_iload_n hx hb d_Mo_divide_87 rfl (lv_at hl 2 rfl) ?_
      obtain ⟨r56, er56, h⟩ := ok_b h
      refine z_sl (rest := [.ref (ad 0)]) C0 hw (c_Mo_lowest (z_gM q7 0 (2 : Int32).toNatClampNeg) x3 q7 r56 er56) mw_Mo_lowest ml_Mo_180 ⟨Nat.le_of_ble_eq_true rfl, Nat.le_of_ble_eq_true rfl⟩ ⟨Nat.le_refl 0, Nat.le_refl 0⟩ rfl hl.1 rfl (Nat.le_of_ble_eq_true rfl) d_Mo_divide_88 (fun H locs hw => ?_)
      refine lv_iload hx hb d_Mo_divide_91 (lv_at hl 4 rfl) ?_
      refine lv_lshl (v := (z_lshl r56 x5)) hx hb d_Mo_divide_93 rfl ?_
      refine lv_lload hx hb d_Mo_divide_94 (lv_at hl 5 rfl) ?_
      refine lv_lor hx hb d_Mo_divide_96 ?_
      exact w_Mo_divide_97 o C0 q7 x1 x3 x4 ((z_lshl r56 x5) ||| x6) h H locs ls hw (lv_sub hl [0, 1, 2, 3] rfl)
    · have h := ok_t h c54
      exact w_Mo_divide_76 o C0 q7 x1 x3 x4 x6 h H locs ls hw (lv_sub hl [0, 1, 2, 3, 5] rfl)
set_option maxHeartbeats 4000000 in
set_option maxRecDepth 100000 in
theorem w_Mo_divide_39 {p : Program} {l : Launch} {e : Env} {s : State} {m : MethodId} {args : Array Value} {below : List Frame} {meth : Method} {c : Code} {D : va_G} {A : Nat → Prop} {ad : Nat → Nat} {ca : Nat → ClassId} (o : z_Sg) (C0 : z_cx z_RMo b_Mo_divide 22 none D (z_Mt ca) A p s m args meth c) (q : z_Sg) (x1 : Int64) (x3 : Int32) (x4 : Int32) (x5 : Int32) (t1 : Int32) (t2 : Int32) (h : k_Mo_divide_39 x1 x3 x4 x5 t1 t2 q = some o) : ∀ (H : Heap) (locs : List Loc) (ls : Array Slot), z_wd D (z_M ad ca q) A s H locs → lv_has ls 22 [(0, .ref (ad 0)), (1, .long x1), (3, .int x3), (4, .int x4), (5, .int x5)] → W p l e (z_rm 2 49) s m args below meth c H locs 0 0 (z_qv below D (z_Mt ca) (z_M ad ca o) A s args) (F0 m 39 ls [.int t2, .int t1, .ref (ad 0)]) := by
  obtain ⟨hx, hb, hr, hlk, hml, hown, hts, hK, hA⟩ := id C0
  intro H locs ls hw hl
  obtain ⟨r5, er5, h⟩ := ok_b h
  refine z_vl (rest := []) C0 hw (c_Mo_get8 t1 t2 q r5 er5) mw_Mo_get8 ml_Mo_185 0 rfl ⟨Nat.le_of_ble_eq_true rfl, Nat.le_of_ble_eq_true rfl⟩ ⟨Nat.le_refl 0, Nat.le_refl 0⟩ rfl hl.1 rfl (Nat.le_of_ble_eq_true rfl) d_Mo_divide_39 (fun H locs hw => ?_)
  refine lv_lstore (lv' := [(6, .long r5), (0, .ref (ad 0)), (1, .long x1), (3, .int x3), (4, .int x4), (5, .int x5)]) hx hb d_Mo_divide_42 hl (by decide) rfl (fun ls hl => ?_)
  refine lv_aload_n hx hb d_Mo_divide_44 rfl (lv_at hl 1 rfl) ?_
  refine lv_iload_n hx hb d_Mo_divide_45 rfl (lv_at hl 3 rfl) ?_
  refine lv_bipush (v := (8 : Int32)) hx hb d_Mo_divide_46 (by decide) ?_
  refine lv_icmp_ne (tgt := 60) hx hb d_Mo_divide_48 (by decide) (fun c6 => ?_) (fun c6 => ?_)
  · have h := ok_f h c6
    refine lv_lconst (v := (0 : Int64)) hx hb d_Mo_divide_60 (by decide) ?_
    exact w_Mo_divide_61 o C0 q x1 x3 x4 x5 r5 (0 : Int64) h H locs ls hw (lv_sub hl [1, 2, 3, 4, 5, 0] rfl)
  · have h := ok_t h c6
    refine lv_aload_n hx hb d_Mo_divide_51 rfl (lv_at hl 1 rfl) ?_
    refine gfM_0_r C0 hw fl_Mo_14 d_Mo_divide_52 ?_
    refine lv_iconst (v := (2 : Int32)) hx hb d_Mo_divide_55 (by decide) ?_
    obtain ⟨b57, h⟩ := ok_g h
    refine alM_2 C0 hw b57 d_Mo_divide_56 ?_
    refine lv_goto (tgt := 61) hx hb d_Mo_divide_57 (by decide) ?_
    exact w_Mo_divide_61 o C0 q x1 x3 x4 x5 r5 (z_gM q 0 (2 : Int32).toNatClampNeg) h H locs ls hw (lv_sub hl [1, 2, 3, 4, 5, 0] rfl)
set_option maxHeartbeats 4000000 in
set_option maxRecDepth 100000 in
theorem c_Mo_divide {l : Launch} {D : va_G} {ad : Nat → Nat} {ca : Nat → ClassId} (x1 : Int64) (x3 : Int32) (x4 : Int32) (q : z_Sg) (o : z_Sg) (h : f_Mo_divide x1 x3 x4 q = some o) : z_cv l y_Mo_divide b_Mo_divide 22 none 2 49 D (z_Mt ca) (z_M ad ca q) (z_M ad ca o) [.ref (ad 0), .long x1, .int x3, .int x4] := by
  refine z_cv_of (own := z_RMo) (by decide) rfl ?_
  intro p e s m below meth c A C0 hw
  obtain ⟨hx, hb, hr, hlk, hml, hown, hts, hK, hA⟩ := id C0
  generalize hH : s.heap = H at hw ⊢
  generalize hlo : ([] : List Loc) = locs at hw ⊢
  refine z_entry (lv := [(0, .ref (ad 0)), (1, .long x1), (3, .int x3), (4, .int x4)]) (Nat.le_of_ble_eq_true rfl) rfl (fun ls hl => ?_)
  unfold f_Mo_divide at h
  refine lv_aload_n hx hb d_Mo_divide_0 rfl (lv_at hl 0 rfl) ?_
  refine gfM_0_refused C0 hw fl_Mo_28 d_Mo_divide_1 ?_
  refine lv_iconst (v := (-1 : Int32)) hx hb d_Mo_divide_4 (by decide) ?_
  refine lv_icmp_eq (tgt := 9) hx hb d_Mo_divide_5 (by decide) (fun c1 => ?_) (fun c1 => ?_)
  · have h := ok_t h c1
    refine lv_lload_n hx hb d_Mo_divide_9 rfl (lv_at hl 1 rfl) ?_
    refine lv_lconst (v := (0 : Int64)) hx hb d_Mo_divide_10 (by decide) ?_
    refine W.lcmp hx hb d_Mo_divide_11 ?_
    refine lv_if_ne (tgt := 21) hx hb d_Mo_divide_12 (by decide) (fun c2 => ?_) (fun c2 => ?_)
    · have h := ok_f h (fun z => c2 ((lg_cmp_eq _ _).mpr z))
      refine lv_bipush (v := (8 : Int32)) hx hb d_Mo_divide_21 (by decide) ?_
      refine lv_iload_n hx hb d_Mo_divide_23 rfl (lv_at hl 2 rfl) ?_
      refine lv_imul hx hb d_Mo_divide_24 ?_
      obtain ⟨n3, en3, h⟩ := ok_n h
      refine z_ti en3 ?_
      refine lv_istore (lv' := [(5, .int n3), (0, .ref (ad 0)), (1, .long x1), (3, .int x3), (4, .int x4)]) hx hb d_Mo_divide_25 hl (by decide) rfl (fun ls hl => ?_)
      refine lv_aload_n hx hb d_Mo_divide_27 rfl (lv_at hl 1 rfl) ?_
      refine lv_iconst (v := (0 : Int32)) hx hb d_Mo_divide_28 (by decide) ?_
      refine lv_iload_n hx hb d_Mo_divide_29 rfl (lv_at hl 3 rfl) ?_
      refine lv_iconst (v := (1 : Int32)) hx hb d_Mo_divide_30 (by decide) ?_
      refine lv_icmp_ne (tgt := 38) hx hb d_Mo_divide_31 (by decide) (fun c4 => ?_) (fun c4 => ?_)
      · have h := ok_f h c4
        refine lv_iload_n hx hb d_Mo_divide_38 rfl (lv_at hl 3 rfl) ?_
        exact w_Mo_divide_39 o C0 q x1 x3 x4 n3 (0 : Int32) x3 h H locs ls hw (lv_sub hl [1, 2, 3, 4, 0] rfl)
      · have h := ok_t h c4
        refine lv_iconst (v := (2 : Int32)) hx hb d_Mo_divide_34 (by decide) ?_
        refine lv_goto (tgt := 39) hx hb d_Mo_divide_35 (by decide) ?_
        exact w_Mo_divide_39 o C0 q x1 x3 x4 n3 (0 : Int32) (2 : Int32) h H locs ls hw (lv_sub hl [1, 2, 3, 4, 0] rfl)
    · have h := ok_t h ((lg_cmp_eq _ _).mp c2)
      refine lv_aload_n hx hb d_Mo_divide_15 rfl (lv_at hl 0 rfl) ?_
      refine lv_iconst (v := (0 : Int32)) hx hb d_Mo_divide_16 (by decide) ?_
      obtain ⟨r58, er58, h⟩ := ok_b h
      refine z_vv (rest := []) C0 hw (c_Mo_refuse (0 : Int32) q r58 er58) mw_Mo_refuse ml_Mo_81 0 rfl ⟨Nat.le_of_ble_eq_true rfl, Nat.le_of_ble_eq_true rfl⟩ ⟨Nat.le_refl 0, Nat.le_refl 0⟩ rfl hl.1 rfl (Nat.le_of_ble_eq_true rfl) d_Mo_divide_17 (fun H locs hw => ?_)
      have ho := Option.some.inj h
      subst ho
      exact z_rtv C0 hw d_Mo_divide_20
  · have h := ok_f h c1
    have ho := Option.some.inj h
    subst ho
    exact z_rtv C0 hw d_Mo_divide_8
def k_Mo_multiply_108 (ih19 : Int64 × Int64 × Int64 × Int32 × z_Sg → Option z_Sg) (x3 : Int64) (x5 : Int64) (x7 : Int64) (x9 : Int32) (q : z_Sg) : Option z_Sg :=
  z_nm (((z_lshl x5 (1 : Int32)) ||| (z_lushr x7 (63 : Int32)))) (fun n5 => z_nm ((z_lshl x7 (1 : Int32))) (fun n6 => z_nm (x9 + (1 : Int32)) (fun n7 => ih19 (x3, n5, n6, n7, q))))
def k_Mo_multiply_97 (ih19 : Int64 × Int64 × Int64 × Int32 × z_Sg → Option z_Sg) (x3 : Int64) (x5 : Int64) (x7 : Int64) (x9 : Int32) (x10 : Int64) (t1 : Int64) (t2 : Int64) (t3 : Int64) (q : z_Sg) : Option z_Sg :=
  z_nm (z_sL q 9 (t1 + (t2 + t3))) (fun q11 => z_nm (z_sL q11 8 x10) (fun q12 => k_Mo_multiply_108 ih19 x3 x5 x7 x9 q12))
def k_Mo_multiply_78 (ih19 : Int64 × Int64 × Int64 × Int32 × z_Sg → Option z_Sg) (x3 : Int64) (x5 : Int64) (x7 : Int64) (x9 : Int32) (x10 : Int64) (t0 : Int32) (q : z_Sg) : Option z_Sg :=
  if t0 = 0 then (k_Mo_multiply_97 ih19 x3 x5 x7 x9 x10 (z_gL q 9) x5 (0 : Int64) q) else (k_Mo_multiply_97 ih19 x3 x5 x7 x9 x10 (z_gL q 9) x5 (1 : Int64) q)
def kb_Mo_multiply_19 (ih19 : Int64 × Int64 × Int64 × Int32 × z_Sg → Option z_Sg) (x3 : Int64) (x5 : Int64) (x7 : Int64) (x9 : Int32) (q : z_Sg) : Option z_Sg :=
  if (64 : Int32) ≤ x9 then (some q) else (if ((z_lushr x3 x9) &&& (1 : Int64)) = (1 : Int64) then (z_nm (((z_gL q 8) + x7)) (fun n8 => if (0 : Int64) ≤ (((z_gL q 8) &&& x7) ||| (((z_gL q 8) ||| x7) &&& (n8 ^^^ (-1 : Int64)))) then (k_Mo_multiply_78 ih19 x3 x5 x7 x9 n8 (0 : Int32) q) else (k_Mo_multiply_78 ih19 x3 x5 x7 x9 n8 (1 : Int32) q))) else (k_Mo_multiply_108 ih19 x3 x5 x7 x9 q))
def k_Mo_multiply_19 (x3 : Int64) (x5 : Int64) (x7 : Int64) (x9 : Int32) (q : z_Sg) : Option z_Sg := z_lo (fun ih19 a => kb_Mo_multiply_19 ih19 a.1 a.2.1 a.2.2.1 a.2.2.2.1 a.2.2.2.2) 2000 (x3, x5, x7, x9, q)
def f_Mo_multiply (x1 : Int64) (x3 : Int64) (q : z_Sg) : Option z_Sg :=
  z_nm (z_sL q 8 (0 : Int64)) (fun q1 => z_nm (z_sL q1 9 (0 : Int64)) (fun q2 => k_Mo_multiply_19 x3 (0 : Int64) x1 (0 : Int32) q2))
set_option maxHeartbeats 4000000 in
set_option maxRecDepth 100000 in
theorem w_Mo_multiply_108 {p : Program} {l : Launch} {e : Env} {s : State} {m : MethodId} {args : Array Value} {below : List Frame} {meth : Method} {c : Code} {D : va_G} {A : Nat → Prop} {ad : Nat → Nat} {ca : Nat → ClassId} (o : z_Sg) (C0 : z_cx z_RMo b_Mo_multiply 13 none D (z_Mt ca) A p s m args meth c) (q : z_Sg) (ih19 : Int64 × Int64 × Int64 × Int32 × z_Sg → Option z_Sg) (hi19 : ∀ a : Int64 × Int64 × Int64 × Int32 × z_Sg, ih19 a = some o → ∀ (H : Heap) (locs : List Loc) (ls : Array Slot), z_wd D (z_M ad ca a.2.2.2.2) A s H locs → lv_has ls 13 [(0, .ref (ad 0)), (3, .long a.1), (5, .long a.2.1), (7, .long a.2.2.1), (9, .int a.2.2.2.1)] → W p l e (z_rm 0 0) s m args below meth c H locs 0 0 (z_qv below D (z_Mt ca) (z_M ad ca o) A s args) (F0 m 19 ls [])) (x3 : Int64) (x5 : Int64) (x7 : Int64) (x9 : Int32) (h : k_Mo_multiply_108 ih19 x3 x5 x7 x9 q = some o) : ∀ (H : Heap) (locs : List Loc) (ls : Array Slot), z_wd D (z_M ad ca q) A s H locs → lv_has ls 13 [(0, .ref (ad 0)), (3, .long x3), (5, .long x5), (7, .long x7), (9, .int x9)] → W p l e (z_rm 0 0) s m args below meth c H locs 0 0 (z_qv below D (z_Mt ca) (z_M ad ca o) A s args) (F0 m 108 ls []) := by
  obtain ⟨hx, hb, hr, hlk, hml, hown, hts, hK, hA⟩ := id C0
  intro H locs ls hw hl
  refine lv_lload hx hb d_Mo_multiply_108 (lv_at hl 2 rfl) ?_
  refine lv_iconst (v := (1 : Int32)) hx hb d_Mo_multiply_110 (by decide) ?_
  refine lv_lshl (v := (z_lshl x5 (1 : Int32))) hx hb d_Mo_multiply_111 rfl ?_
  refine lv_lload hx hb d_Mo_multiply_112 (lv_at hl 3 rfl) ?_
  refine lv_bipush (v := (63 : Int32)) hx hb d_Mo_multiply_114 (by decide) ?_
  refine lv_lushr (v := (z_lushr x7 (63 : Int32))) hx hb d_Mo_multiply_116 rfl ?_
  refine lv_lor hx hb d_Mo_multiply_117 ?_
  obtain ⟨n5, en5, h⟩ := ok_n h
  refine z_tl en5 ?_
  refine lv_lstore (lv' := [(5, .long n5), (0, .ref (ad 0)), (3, .long x3), (7, .long x7), (9, .int x9)]) hx hb d_Mo_multiply_118 hl (by decide) rfl (fun ls hl => ?_)
  refine lv_lload hx hb d_Mo_multiply_120 (lv_at hl 3 rfl) ?_
  refine lv_iconst (v := (1 : Int32)) hx hb d_Mo_multiply_122 (by decide) ?_
  refine lv_lshl (v := (z_lshl x7 (1 : Int32))) hx hb d_Mo_multiply_123 rfl ?_
  obtain ⟨n6, en6, h⟩ := ok_n h
  refine z_tl en6 ?_
  refine lv_lstore (lv' := [(7, .long n6), (5, .long n5), (0, .ref (ad 0)), (3, .long x3), (9, .int x9)]) hx hb d_Mo_multiply_124 hl (by decide) rfl (fun ls hl => ?_)
  obtain ⟨n7, en7, h⟩ := ok_n h
  refine lv_iinc (v := n7) (lv' := [(9, .int n7), (7, .long n6), (5, .long n5), (0, .ref (ad 0)), (3, .long x3)]) hx hb d_Mo_multiply_126 hl (k := 4) rfl (by rw [en7]; rfl) (by decide) rfl (fun ls hl => ?_)
  refine lv_goto (tgt := 19) hx hb d_Mo_multiply_129 (by decide) ?_
  exact hi19 (x3, n5, n6, n7, q) h H locs ls hw (lv_sub hl [3, 4, 2, 1, 0] rfl)
set_option maxHeartbeats 4000000 in
set_option maxRecDepth 100000 in
theorem w_Mo_multiply_97 {p : Program} {l : Launch} {e : Env} {s : State} {m : MethodId} {args : Array Value} {below : List Frame} {meth : Method} {c : Code} {D : va_G} {A : Nat → Prop} {ad : Nat → Nat} {ca : Nat → ClassId} (o : z_Sg) (C0 : z_cx z_RMo b_Mo_multiply 13 none D (z_Mt ca) A p s m args meth c) (q : z_Sg) (ih19 : Int64 × Int64 × Int64 × Int32 × z_Sg → Option z_Sg) (hi19 : ∀ a : Int64 × Int64 × Int64 × Int32 × z_Sg, ih19 a = some o → ∀ (H : Heap) (locs : List Loc) (ls : Array Slot), z_wd D (z_M ad ca a.2.2.2.2) A s H locs → lv_has ls 13 [(0, .ref (ad 0)), (3, .long a.1), (5, .long a.2.1), (7, .long a.2.2.1), (9, .int a.2.2.2.1)] → W p l e (z_rm 0 0) s m args below meth c H locs 0 0 (z_qv below D (z_Mt ca) (z_M ad ca o) A s args) (F0 m 19 ls [])) (x3 : Int64) (x5 : Int64) (x7 : Int64) (x9 : Int32) (x10 : Int64) (t1 : Int64) (t2 : Int64) (t3 : Int64) (h : k_Mo_multiply_97 ih19 x3 x5 x7 x9 x10 t1 t2 t3 q = some o) : ∀ (H : Heap) (locs : List Loc) (ls : Array Slot), z_wd D (z_M ad ca q) A s H locs → lv_has ls 13 [(0, .ref (ad 0)), (3, .long x3), (5, .long x5), (7, .long x7), (9, .int x9), (10, .long x10)] → W p l e (z_rm 0 0) s m args below meth c H locs 0 0 (z_qv below D (z_Mt ca) (z_M ad ca o) A s args) (F0 m 97 ls [.long t3, .long t2, .long t1, .ref (ad 0)]) := by
  obtain ⟨hx, hb, hr, hlk, hml, hown, hts, hK, hA⟩ := id C0
  intro H locs ls hw hl
  refine lv_ladd hx hb d_Mo_multiply_97 ?_
  refine lv_ladd hx hb d_Mo_multiply_98 ?_
  refine pfM_0_high C0 hw fl_Mo_383 d_Mo_multiply_99 (fun H locs hw => ?_)
  obtain ⟨q11, eq11, h⟩ := ok_n h
  rw [← eq11] at hw
  refine lv_aload_n hx hb d_Mo_multiply_102 rfl (lv_at hl 0 rfl) ?_
  refine lv_lload hx hb d_Mo_multiply_103 (lv_at hl 5 rfl) ?_
  refine pfM_0_low C0 hw fl_Mo_380 d_Mo_multiply_105 (fun H locs hw => ?_)
  obtain ⟨q12, eq12, h⟩ := ok_n h
  rw [← eq12] at hw
  exact w_Mo_multiply_108 o C0 q12 ih19 hi19 x3 x5 x7 x9 h H locs ls hw (lv_sub hl [0, 1, 2, 3, 4] rfl)
set_option maxHeartbeats 4000000 in
set_option maxRecDepth 100000 in
theorem w_Mo_multiply_78 {p : Program} {l : Launch} {e : Env} {s : State} {m : MethodId} {args : Array Value} {below : List Frame} {meth : Method} {c : Code} {D : va_G} {A : Nat → Prop} {ad : Nat → Nat} {ca : Nat → ClassId} (o : z_Sg) (C0 : z_cx z_RMo b_Mo_multiply 13 none D (z_Mt ca) A p s m args meth c) (q : z_Sg) (ih19 : Int64 × Int64 × Int64 × Int32 × z_Sg → Option z_Sg) (hi19 : ∀ a : Int64 × Int64 × Int64 × Int32 × z_Sg, ih19 a = some o → ∀ (H : Heap) (locs : List Loc) (ls : Array Slot), z_wd D (z_M ad ca a.2.2.2.2) A s H locs → lv_has ls 13 [(0, .ref (ad 0)), (3, .long a.1), (5, .long a.2.1), (7, .long a.2.2.1), (9, .int a.2.2.2.1)] → W p l e (z_rm 0 0) s m args below meth c H locs 0 0 (z_qv below D (z_Mt ca) (z_M ad ca o) A s args) (F0 m 19 ls [])) (x3 : Int64) (x5 : Int64) (x7 : Int64) (x9 : Int32) (x10 : Int64) (t0 : Int32) (h : k_Mo_multiply_78 ih19 x3 x5 x7 x9 x10 t0 q = some o) : ∀ (H : Heap) (locs : List Loc) (ls : Array Slot), z_wd D (z_M ad ca q) A s H locs → lv_has ls 13 [(0, .ref (ad 0)), (3, .long x3), (5, .long x5), (7, .long x7), (9, .int x9), (10, .long x10)] → W p l e (z_rm 0 0) s m args below meth c H locs 0 0 (z_qv below D (z_Mt ca) (z_M ad ca o) A s args) (F0 m 78 ls [.int t0]) := by
  obtain ⟨hx, hb, hr, hlk, hml, hown, hts, hK, hA⟩ := id C0
  intro H locs ls hw hl
  refine lv_istore (lv' := [(12, .int t0), (0, .ref (ad 0)), (3, .long x3), (5, .long x5), (7, .long x7), (9, .int x9), (10, .long x10)]) hx hb d_Mo_multiply_78 hl (by decide) rfl (fun ls hl => ?_)
  refine lv_aload_n hx hb d_Mo_multiply_80 rfl (lv_at hl 1 rfl) ?_
  refine lv_dup hx hb d_Mo_multiply_81 rfl ?_
  refine gfM_0_high C0 hw fl_Mo_383 d_Mo_multiply_82 ?_
  refine lv_lload hx hb d_Mo_multiply_85 (lv_at hl 3 rfl) ?_
  refine lv_iload hx hb d_Mo_multiply_87 (lv_at hl 0 rfl) ?_
  refine lv_if_eq (tgt := 96) hx hb d_Mo_multiply_89 (by decide) (fun c10 => ?_) (fun c10 => ?_)
  · have h := ok_t h c10
    refine lv_lconst (v := (0 : Int64)) hx hb d_Mo_multiply_96 (by decide) ?_
    exact w_Mo_multiply_97 o C0 q ih19 hi19 x3 x5 x7 x9 x10 (z_gL q 9) x5 (0 : Int64) h H locs ls hw (lv_sub hl [1, 2, 3, 4, 5, 6] rfl)
  · have h := ok_f h c10
    refine lv_lconst (v := (1 : Int64)) hx hb d_Mo_multiply_92 (by decide) ?_
    refine lv_goto (tgt := 97) hx hb d_Mo_multiply_93 (by decide) ?_
    exact w_Mo_multiply_97 o C0 q ih19 hi19 x3 x5 x7 x9 x10 (z_gL q 9) x5 (1 : Int64) h H locs ls hw (lv_sub hl [1, 2, 3, 4, 5, 6] rfl)
set_option maxHeartbeats 4000000 in
set_option maxRecDepth 100000 in
theorem wb_Mo_multiply_19 {p : Program} {l : Launch} {e : Env} {s : State} {m : MethodId} {args : Array Value} {below : List Frame} {meth : Method} {c : Code} {D : va_G} {A : Nat → Prop} {ad : Nat → Nat} {ca : Nat → ClassId} (o : z_Sg) (C0 : z_cx z_RMo b_Mo_multiply 13 none D (z_Mt ca) A p s m args meth c) (q : z_Sg) (ih19 : Int64 × Int64 × Int64 × Int32 × z_Sg → Option z_Sg) (hi19 : ∀ a : Int64 × Int64 × Int64 × Int32 × z_Sg, ih19 a = some o → ∀ (H : Heap) (locs : List Loc) (ls : Array Slot), z_wd D (z_M ad ca a.2.2.2.2) A s H locs → lv_has ls 13 [(0, .ref (ad 0)), (3, .long a.1), (5, .long a.2.1), (7, .long a.2.2.1), (9, .int a.2.2.2.1)] → W p l e (z_rm 0 0) s m args below meth c H locs 0 0 (z_qv below D (z_Mt ca) (z_M ad ca o) A s args) (F0 m 19 ls [])) (x3 : Int64) (x5 : Int64) (x7 : Int64) (x9 : Int32) (h : kb_Mo_multiply_19 ih19 x3 x5 x7 x9 q = some o) : ∀ (H : Heap) (locs : List Loc) (ls : Array Slot), z_wd D (z_M ad ca q) A s H locs → lv_has ls 13 [(0, .ref (ad 0)), (3, .long x3), (5, .long x5), (7, .long x7), (9, .int x9)] → W p l e (z_rm 0 0) s m args below meth c H locs 0 0 (z_qv below D (z_Mt ca) (z_M ad ca o) A s args) (F0 m 19 ls []) := by
  obtain ⟨hx, hb, hr, hlk, hml, hown, hts, hK, hA⟩ := id C0
  intro H locs ls hw hl
  refine lv_iload hx hb d_Mo_multiply_19 (lv_at hl 4 rfl) ?_
  refine lv_bipush (v := (64 : Int32)) hx hb d_Mo_multiply_21 (by decide) ?_
  refine lv_icmp_ge (tgt := 132) hx hb d_Mo_multiply_23 (by decide) (fun c3 => ?_) (fun c3 => ?_)
  · have h := ok_t h c3
    have ho := Option.some.inj h
    subst ho
    exact z_rtv C0 hw d_Mo_multiply_132
  · have h := ok_f h c3
    refine lv_lload_n hx hb d_Mo_multiply_26 rfl (lv_at hl 1 rfl) ?_
    refine lv_iload hx hb d_Mo_multiply_27 (lv_at hl 4 rfl) ?_
    refine lv_lushr (v := (z_lushr x3 x9)) hx hb d_Mo_multiply_29 rfl ?_
    refine lv_lconst (v := (1 : Int64)) hx hb d_Mo_multiply_30 (by decide) ?_
    refine lv_land hx hb d_Mo_multiply_31 ?_
    refine lv_lconst (v := (1 : Int64)) hx hb d_Mo_multiply_32 (by decide) ?_
    refine W.lcmp hx hb d_Mo_multiply_33 ?_
    refine lv_if_ne (tgt := 108) hx hb d_Mo_multiply_34 (by decide) (fun c4 => ?_) (fun c4 => ?_)
    · have h := ok_f h (fun z => c4 ((lg_cmp_eq _ _).mpr z))
      exact w_Mo_multiply_108 o C0 q ih19 hi19 x3 x5 x7 x9 h H locs ls hw (lv_sub hl [0, 1, 2, 3, 4] rfl)
    · have h := ok_t h ((lg_cmp_eq _ _).mp c4)
      refine lv_aload_n hx hb d_Mo_multiply_37 rfl (lv_at hl 0 rfl) ?_
      refine gfM_0_low C0 hw fl_Mo_380 d_Mo_multiply_38 ?_
      refine lv_lload hx hb d_Mo_multiply_41 (lv_at hl 3 rfl) ?_
      refine lv_ladd hx hb d_Mo_multiply_43 ?_
      obtain ⟨n8, en8, h⟩ := ok_n h
      refine z_tl en8 ?_
      refine lv_lstore (lv' := [(10, .long n8), (0, .ref (ad 0)), (3, .long x3), (5, .long x5), (7, .long x7), (9, .int x9)]) hx hb d_Mo_multiply_44 hl (by decide) rfl (fun ls hl => ?_)
      refine lv_aload_n hx hb d_Mo_multiply_46 rfl (lv_at hl 1 rfl) ?_
      refine gfM_0_low C0 hw fl_Mo_380 d_Mo_multiply_47 ?_
      refine lv_lload hx hb d_Mo_multiply_50 (lv_at hl 4 rfl) ?_
      refine lv_land hx hb d_Mo_multiply_52 ?_
      refine lv_aload_n hx hb d_Mo_multiply_53 rfl (lv_at hl 1 rfl) ?_
      refine gfM_0_low C0 hw fl_Mo_380 d_Mo_multiply_54 ?_
      refine lv_lload hx hb d_Mo_multiply_57 (lv_at hl 4 rfl) ?_
      refine lv_lor hx hb d_Mo_multiply_59 ?_
      refine lv_lload hx hb d_Mo_multiply_60 (lv_at hl 0 rfl) ?_
      refine lv_ldc2 (own := z_RMo) hx hb hown (hts _ kl_Mo_71) d_Mo_multiply_62 ?_
      refine lv_lxor hx hb d_Mo_multiply_65 ?_
      refine lv_land hx hb d_Mo_multiply_66 ?_
      refine lv_lor hx hb d_Mo_multiply_67 ?_
      refine lv_lconst (v := (0 : Int64)) hx hb d_Mo_multiply_68 (by decide) ?_
      refine W.lcmp hx hb d_Mo_multiply_69 ?_
      refine lv_if_ge (tgt := 77) hx hb d_Mo_multiply_70 (by decide) (fun c9 => ?_) (fun c9 => ?_)
      · have h := ok_t h ((lg_cmp_ge _ _).mp c9)
        refine lv_iconst (v := (0 : Int32)) hx hb d_Mo_multiply_77 (by decide) ?_
        exact w_Mo_multiply_78 o C0 q ih19 hi19 x3 x5 x7 x9 n8 (0 : Int32) h H locs ls hw (lv_sub hl [1, 2, 3, 4, 5, 0] rfl)
      · have h := ok_f h (fun z => c9 ((lg_cmp_ge _ _).mpr z))
        refine lv_iconst (v := (1 : Int32)) hx hb d_Mo_multiply_73 (by decide) ?_
        refine lv_goto (tgt := 78) hx hb d_Mo_multiply_74 (by decide) ?_
        exact w_Mo_multiply_78 o C0 q ih19 hi19 x3 x5 x7 x9 n8 (1 : Int32) h H locs ls hw (lv_sub hl [1, 2, 3, 4, 5, 0] rfl)
theorem w_Mo_multiply_19 {p : Program} {l : Launch} {e : Env} {s : State} {m : MethodId} {args : Array Value} {below : List Frame} {meth : Method} {c : Code} {D : va_G} {A : Nat → Prop} {ad : Nat → Nat} {ca : Nat → ClassId} (o : z_Sg) (C0 : z_cx z_RMo b_Mo_multiply 13 none D (z_Mt ca) A p s m args meth c) (q : z_Sg) (x3 : Int64) (x5 : Int64) (x7 : Int64) (x9 : Int32) (h : k_Mo_multiply_19 x3 x5 x7 x9 q = some o) : ∀ (H : Heap) (locs : List Loc) (ls : Array Slot), z_wd D (z_M ad ca q) A s H locs → lv_has ls 13 [(0, .ref (ad 0)), (3, .long x3), (5, .long x5), (7, .long x7), (9, .int x9)] → W p l e (z_rm 0 0) s m args below meth c H locs 0 0 (z_qv below D (z_Mt ca) (z_M ad ca o) A s args) (F0 m 19 ls []) := by
  have key : ∀ (n : Nat) (a : Int64 × Int64 × Int64 × Int32 × z_Sg), z_lo (fun ih19 a => kb_Mo_multiply_19 ih19 a.1 a.2.1 a.2.2.1 a.2.2.2.1 a.2.2.2.2) n a = some o → ∀ (H : Heap) (locs : List Loc) (ls : Array Slot), z_wd D (z_M ad ca a.2.2.2.2) A s H locs → lv_has ls 13 [(0, .ref (ad 0)), (3, .long a.1), (5, .long a.2.1), (7, .long a.2.2.1), (9, .int a.2.2.2.1)] → W p l e (z_rm 0 0) s m args below meth c H locs 0 0 (z_qv below D (z_Mt ca) (z_M ad ca o) A s args) (F0 m 19 ls []) := by
    intro n
    induction n with
    | zero => intro a h; cases h
    | succ n ih => exact fun a h => wb_Mo_multiply_19 o C0 a.2.2.2.2 (z_lo (fun ih19 a => kb_Mo_multiply_19 ih19 a.1 a.2.1 a.2.2.1 a.2.2.2.1 a.2.2.2.2) n) ih a.1 a.2.1 a.2.2.1 a.2.2.2.1 h
  exact key 2000 (x3, x5, x7, x9, q) h
set_option maxHeartbeats 4000000 in
set_option maxRecDepth 100000 in
theorem c_Mo_multiply {l : Launch} {D : va_G} {ad : Nat → Nat} {ca : Nat → ClassId} (x1 : Int64) (x3 : Int64) (q : z_Sg) (o : z_Sg) (h : f_Mo_multiply x1 x3 q = some o) : z_cv l y_Mo_multiply b_Mo_multiply 13 none 0 0 D (z_Mt ca) (z_M ad ca q) (z_M ad ca o) [.ref (ad 0), .long x1, .long x3] := by
  refine z_cv_of (own := z_RMo) (by decide) rfl ?_
  intro p e s m below meth c A C0 hw
  obtain ⟨hx, hb, hr, hlk, hml, hown, hts, hK, hA⟩ := id C0
  generalize hH : s.heap = H at hw ⊢
  generalize hlo : ([] : List Loc) = locs at hw ⊢
  refine z_entry (lv := [(0, .ref (ad 0)), (1, .long x1), (3, .long x3)]) (Nat.le_of_ble_eq_true rfl) rfl (fun ls hl => ?_)
  unfold f_Mo_multiply at h
  refine lv_aload_n hx hb d_Mo_multiply_0 rfl (lv_at hl 0 rfl) ?_
  refine lv_lconst (v := (0 : Int64)) hx hb d_Mo_multiply_1 (by decide) ?_
  refine pfM_0_low C0 hw fl_Mo_380 d_Mo_multiply_2 (fun H locs hw => ?_)
  obtain ⟨q1, eq1, h⟩ := ok_n h
  rw [← eq1] at hw
  refine lv_aload_n hx hb d_Mo_multiply_5 rfl (lv_at hl 0 rfl) ?_
  refine lv_lconst (v := (0 : Int64)) hx hb d_Mo_multiply_6 (by decide) ?_
  refine pfM_0_high C0 hw fl_Mo_383 d_Mo_multiply_7 (fun H locs hw => ?_)
  obtain ⟨q2, eq2, h⟩ := ok_n h
  rw [← eq2] at hw
  refine lv_lconst (v := (0 : Int64)) hx hb d_Mo_multiply_10 (by decide) ?_
  refine lv_lstore (lv' := [(5, .long (0 : Int64)), (0, .ref (ad 0)), (1, .long x1), (3, .long x3)]) hx hb d_Mo_multiply_11 hl (by decide) rfl (fun ls hl => ?_)
  refine lv_lload_n hx hb d_Mo_multiply_13 rfl (lv_at hl 2 rfl) ?_
  refine lv_lstore (lv' := [(7, .long x1), (5, .long (0 : Int64)), (0, .ref (ad 0)), (1, .long x1), (3, .long x3)]) hx hb d_Mo_multiply_14 hl (by decide) rfl (fun ls hl => ?_)
  refine lv_iconst (v := (0 : Int32)) hx hb d_Mo_multiply_16 (by decide) ?_
  refine lv_istore (lv' := [(9, .int (0 : Int32)), (7, .long x1), (5, .long (0 : Int64)), (0, .ref (ad 0)), (1, .long x1), (3, .long x3)]) hx hb d_Mo_multiply_17 hl (by decide) rfl (fun ls hl => ?_)
  exact w_Mo_multiply_19 o C0 q2 x3 (0 : Int64) x1 (0 : Int32) h H locs ls hw (lv_sub hl [3, 5, 2, 1, 0] rfl)
def f_Mo_muchFlags (x1 : Int32) (q : z_Sg) : Option z_Sg :=
  if z_bad (0 : Int32) 7 then none else (z_nm (z_sN q 1 (0 : Int32).toNatClampNeg (vp_nar .boolean x1)) (fun q2 => if z_bad (6 : Int32) 7 then none else (z_nm (z_sN q2 1 (6 : Int32).toNatClampNeg (vp_nar .boolean x1)) (fun q4 => (f_Mo_leave (4 : Int32) q4).bind (fun r5 => (f_Mo_leave (3 : Int32) r5).bind (fun r6 => (f_Mo_leave (2 : Int32) r6).bind (fun r7 => (f_Mo_leave (1 : Int32) r7).bind (fun r8 => some r8))))))))
set_option maxHeartbeats 4000000 in
set_option maxRecDepth 100000 in
theorem c_Mo_muchFlags {l : Launch} {D : va_G} {ad : Nat → Nat} {ca : Nat → ClassId} (x1 : Int32) (q : z_Sg) (o : z_Sg) (h : f_Mo_muchFlags x1 q = some o) : z_cv l y_Mo_muchFlags b_Mo_muchFlags 2 none 2 42 D (z_Mt ca) (z_M ad ca q) (z_M ad ca o) [.ref (ad 0), .int x1] := by
  refine z_cv_of (own := z_RMo) (by decide) rfl ?_
  intro p e s m below meth c A C0 hw
  obtain ⟨hx, hb, hr, hlk, hml, hown, hts, hK, hA⟩ := id C0
  generalize hH : s.heap = H at hw ⊢
  generalize hlo : ([] : List Loc) = locs at hw ⊢
  refine z_entry (lv := [(0, .ref (ad 0)), (1, .int x1)]) (Nat.le_of_ble_eq_true rfl) rfl (fun ls hl => ?_)
  unfold f_Mo_muchFlags at h
  refine lv_aload_n hx hb d_Mo_muchFlags_0 rfl (lv_at hl 0 rfl) ?_
  refine gfM_0_flag C0 hw fl_Mo_21 d_Mo_muchFlags_1 ?_
  refine lv_iconst (v := (0 : Int32)) hx hb d_Mo_muchFlags_4 (by decide) ?_
  refine lv_iload_n hx hb d_Mo_muchFlags_5 rfl (lv_at hl 1 rfl) ?_
  obtain ⟨b1, h⟩ := ok_g h
  refine asM_4 C0 hw b1 d_Mo_muchFlags_6 (fun H locs hw => ?_)
  obtain ⟨q2, eq2, h⟩ := ok_n h
  rw [← eq2] at hw
  refine lv_aload_n hx hb d_Mo_muchFlags_7 rfl (lv_at hl 0 rfl) ?_
  refine gfM_0_flag C0 hw fl_Mo_21 d_Mo_muchFlags_8 ?_
  refine lv_bipush (v := (6 : Int32)) hx hb d_Mo_muchFlags_11 (by decide) ?_
  refine lv_iload_n hx hb d_Mo_muchFlags_13 rfl (lv_at hl 1 rfl) ?_
  obtain ⟨b3, h⟩ := ok_g h
  refine asM_4 C0 hw b3 d_Mo_muchFlags_14 (fun H locs hw => ?_)
  obtain ⟨q4, eq4, h⟩ := ok_n h
  rw [← eq4] at hw
  refine lv_aload_n hx hb d_Mo_muchFlags_15 rfl (lv_at hl 0 rfl) ?_
  refine lv_iconst (v := (4 : Int32)) hx hb d_Mo_muchFlags_16 (by decide) ?_
  obtain ⟨r5, er5, h⟩ := ok_b h
  refine z_vv (rest := []) C0 hw (c_Mo_leave (4 : Int32) q4 r5 er5) mw_Mo_leave ml_Mo_219 0 rfl ⟨Nat.le_of_ble_eq_true rfl, Nat.le_of_ble_eq_true rfl⟩ ⟨Nat.le_refl 0, Nat.le_refl 0⟩ rfl hl.1 rfl (Nat.le_of_ble_eq_true rfl) d_Mo_muchFlags_17 (fun H locs hw => ?_)
  refine lv_aload_n hx hb d_Mo_muchFlags_20 rfl (lv_at hl 0 rfl) ?_
  refine lv_iconst (v := (3 : Int32)) hx hb d_Mo_muchFlags_21 (by decide) ?_
  obtain ⟨r6, er6, h⟩ := ok_b h
  refine z_vv (rest := []) C0 hw (c_Mo_leave (3 : Int32) r5 r6 er6) mw_Mo_leave ml_Mo_219 0 rfl ⟨Nat.le_of_ble_eq_true rfl, Nat.le_of_ble_eq_true rfl⟩ ⟨Nat.le_refl 0, Nat.le_refl 0⟩ rfl hl.1 rfl (Nat.le_of_ble_eq_true rfl) d_Mo_muchFlags_22 (fun H locs hw => ?_)
  refine lv_aload_n hx hb d_Mo_muchFlags_25 rfl (lv_at hl 0 rfl) ?_
  refine lv_iconst (v := (2 : Int32)) hx hb d_Mo_muchFlags_26 (by decide) ?_
  obtain ⟨r7, er7, h⟩ := ok_b h
  refine z_vv (rest := []) C0 hw (c_Mo_leave (2 : Int32) r6 r7 er7) mw_Mo_leave ml_Mo_219 0 rfl ⟨Nat.le_of_ble_eq_true rfl, Nat.le_of_ble_eq_true rfl⟩ ⟨Nat.le_refl 0, Nat.le_refl 0⟩ rfl hl.1 rfl (Nat.le_of_ble_eq_true rfl) d_Mo_muchFlags_27 (fun H locs hw => ?_)
  refine lv_aload_n hx hb d_Mo_muchFlags_30 rfl (lv_at hl 0 rfl) ?_
  refine lv_iconst (v := (1 : Int32)) hx hb d_Mo_muchFlags_31 (by decide) ?_
  obtain ⟨r8, er8, h⟩ := ok_b h
  refine z_vv (rest := []) C0 hw (c_Mo_leave (1 : Int32) r7 r8 er8) mw_Mo_leave ml_Mo_219 0 rfl ⟨Nat.le_of_ble_eq_true rfl, Nat.le_of_ble_eq_true rfl⟩ ⟨Nat.le_refl 0, Nat.le_refl 0⟩ rfl hl.1 rfl (Nat.le_of_ble_eq_true rfl) d_Mo_muchFlags_32 (fun H locs hw => ?_)
  have ho := Option.some.inj h
  subst ho
  exact z_rtv C0 hw d_Mo_muchFlags_35
def k_Mo_multiplySigned_57 (q : z_Sg) : Option z_Sg :=
  some q
def k_Mo_multiplySigned_50 (t0 : Int32) (t1 : Int32) (q : z_Sg) : Option z_Sg :=
  if t0 = t1 then (k_Mo_multiplySigned_57 q) else ((f_Mo_turnSign q).bind (fun r7 => k_Mo_multiplySigned_57 r7))
def k_Mo_multiplySigned_39 (x3 : Int64) (t0 : Int32) (q : z_Sg) : Option z_Sg :=
  if (0 : Int64) ≤ x3 then (k_Mo_multiplySigned_50 t0 (0 : Int32) q) else (k_Mo_multiplySigned_50 t0 (1 : Int32) q)
def k_Mo_multiplySigned_25 (x1 : Int64) (x3 : Int64) (t1 : Int64) (t2 : Int64) (q : z_Sg) : Option z_Sg :=
  (f_Mo_multiply t1 t2 q).bind (fun r3 => if (0 : Int64) ≤ x1 then (k_Mo_multiplySigned_39 x3 (0 : Int32) r3) else (k_Mo_multiplySigned_39 x3 (1 : Int32) r3))
def k_Mo_multiplySigned_13 (x1 : Int64) (x3 : Int64) (t1 : Int64) (q : z_Sg) : Option z_Sg :=
  if (0 : Int64) ≤ x3 then (k_Mo_multiplySigned_25 x1 x3 t1 x3 q) else (k_Mo_multiplySigned_25 x1 x3 t1 (-x3) q)
def f_Mo_multiplySigned (x1 : Int64) (x3 : Int64) (q : z_Sg) : Option z_Sg :=
  if (0 : Int64) ≤ x1 then (k_Mo_multiplySigned_13 x1 x3 x1 q) else (k_Mo_multiplySigned_13 x1 x3 (-x1) q)
set_option maxHeartbeats 4000000 in
set_option maxRecDepth 100000 in
theorem w_Mo_multiplySigned_57 {p : Program} {l : Launch} {e : Env} {s : State} {m : MethodId} {args : Array Value} {below : List Frame} {meth : Method} {c : Code} {D : va_G} {A : Nat → Prop} {ad : Nat → Nat} {ca : Nat → ClassId} (o : z_Sg) (C0 : z_cx z_RMo b_Mo_multiplySigned 5 none D (z_Mt ca) A p s m args meth c) (q : z_Sg) (h : k_Mo_multiplySigned_57 q = some o) : ∀ (H : Heap) (locs : List Loc) (ls : Array Slot), z_wd D (z_M ad ca q) A s H locs → lv_has ls 5 [] → W p l e (z_rm 1 32) s m args below meth c H locs 0 0 (z_qv below D (z_Mt ca) (z_M ad ca o) A s args) (F0 m 57 ls []) := by
  obtain ⟨hx, hb, hr, hlk, hml, hown, hts, hK, hA⟩ := id C0
  intro H locs ls hw hl
  have ho := Option.some.inj h
  subst ho
  exact z_rtv C0 hw d_Mo_multiplySigned_57
set_option maxHeartbeats 4000000 in
set_option maxRecDepth 100000 in
theorem w_Mo_multiplySigned_50 {p : Program} {l : Launch} {e : Env} {s : State} {m : MethodId} {args : Array Value} {below : List Frame} {meth : Method} {c : Code} {D : va_G} {A : Nat → Prop} {ad : Nat → Nat} {ca : Nat → ClassId} (o : z_Sg) (C0 : z_cx z_RMo b_Mo_multiplySigned 5 none D (z_Mt ca) A p s m args meth c) (q : z_Sg) (t0 : Int32) (t1 : Int32) (h : k_Mo_multiplySigned_50 t0 t1 q = some o) : ∀ (H : Heap) (locs : List Loc) (ls : Array Slot), z_wd D (z_M ad ca q) A s H locs → lv_has ls 5 [(0, .ref (ad 0))] → W p l e (z_rm 1 32) s m args below meth c H locs 0 0 (z_qv below D (z_Mt ca) (z_M ad ca o) A s args) (F0 m 50 ls [.int t1, .int t0]) := by
  obtain ⟨hx, hb, hr, hlk, hml, hown, hts, hK, hA⟩ := id C0
  intro H locs ls hw hl
  refine lv_icmp_eq (tgt := 57) hx hb d_Mo_multiplySigned_50 (by decide) (fun c6 => ?_) (fun c6 => ?_)
  · have h := ok_t h c6
    exact w_Mo_multiplySigned_57 o C0 q h H locs ls hw (lv_sub hl [] rfl)
  · have h := ok_f h c6
    refine lv_aload_n hx hb d_Mo_multiplySigned_53 rfl (lv_at hl 0 rfl) ?_
    obtain ⟨r7, er7, h⟩ := ok_b h
    refine z_vv (rest := []) C0 hw (c_Mo_turnSign q r7 er7) mw_Mo_turnSign ml_Mo_390 0 rfl ⟨Nat.le_of_ble_eq_true rfl, Nat.le_of_ble_eq_true rfl⟩ ⟨Nat.le_refl 0, Nat.le_refl 0⟩ rfl hl.1 rfl (Nat.le_of_ble_eq_true rfl) d_Mo_multiplySigned_54 (fun H locs hw => ?_)
    exact w_Mo_multiplySigned_57 o C0 r7 h H locs ls hw (lv_sub hl [] rfl)
set_option maxHeartbeats 4000000 in
set_option maxRecDepth 100000 in
theorem w_Mo_multiplySigned_39 {p : Program} {l : Launch} {e : Env} {s : State} {m : MethodId} {args : Array Value} {below : List Frame} {meth : Method} {c : Code} {D : va_G} {A : Nat → Prop} {ad : Nat → Nat} {ca : Nat → ClassId} (o : z_Sg) (C0 : z_cx z_RMo b_Mo_multiplySigned 5 none D (z_Mt ca) A p s m args meth c) (q : z_Sg) (x3 : Int64) (t0 : Int32) (h : k_Mo_multiplySigned_39 x3 t0 q = some o) : ∀ (H : Heap) (locs : List Loc) (ls : Array Slot), z_wd D (z_M ad ca q) A s H locs → lv_has ls 5 [(0, .ref (ad 0)), (3, .long x3)] → W p l e (z_rm 1 32) s m args below meth c H locs 0 0 (z_qv below D (z_Mt ca) (z_M ad ca o) A s args) (F0 m 39 ls [.int t0]) := by
  obtain ⟨hx, hb, hr, hlk, hml, hown, hts, hK, hA⟩ := id C0
  intro H locs ls hw hl
  refine lv_lload_n hx hb d_Mo_multiplySigned_39 rfl (lv_at hl 1 rfl) ?_
  refine lv_lconst (v := (0 : Int64)) hx hb d_Mo_multiplySigned_40 (by decide) ?_
  refine W.lcmp hx hb d_Mo_multiplySigned_41 ?_
  refine lv_if_ge (tgt := 49) hx hb d_Mo_multiplySigned_42 (by decide) (fun c5 => ?_) (fun c5 => ?_)
  · have h := ok_t h ((lg_cmp_ge _ _).mp c5)
    refine lv_iconst (v := (0 : Int32)) hx hb d_Mo_multiplySigned_49 (by decide) ?_
    exact w_Mo_multiplySigned_50 o C0 q t0 (0 : Int32) h H locs ls hw (lv_sub hl [0] rfl)
  · have h := ok_f h (fun z => c5 ((lg_cmp_ge _ _).mpr z))
    refine lv_iconst (v := (1 : Int32)) hx hb d_Mo_multiplySigned_45 (by decide) ?_
    refine lv_goto (tgt := 50) hx hb d_Mo_multiplySigned_46 (by decide) ?_
    exact w_Mo_multiplySigned_50 o C0 q t0 (1 : Int32) h H locs ls hw (lv_sub hl [0] rfl)
set_option maxHeartbeats 4000000 in
set_option maxRecDepth 100000 in
theorem w_Mo_multiplySigned_25 {p : Program} {l : Launch} {e : Env} {s : State} {m : MethodId} {args : Array Value} {below : List Frame} {meth : Method} {c : Code} {D : va_G} {A : Nat → Prop} {ad : Nat → Nat} {ca : Nat → ClassId} (o : z_Sg) (C0 : z_cx z_RMo b_Mo_multiplySigned 5 none D (z_Mt ca) A p s m args meth c) (q : z_Sg) (x1 : Int64) (x3 : Int64) (t1 : Int64) (t2 : Int64) (h : k_Mo_multiplySigned_25 x1 x3 t1 t2 q = some o) : ∀ (H : Heap) (locs : List Loc) (ls : Array Slot), z_wd D (z_M ad ca q) A s H locs → lv_has ls 5 [(0, .ref (ad 0)), (1, .long x1), (3, .long x3)] → W p l e (z_rm 1 32) s m args below meth c H locs 0 0 (z_qv below D (z_Mt ca) (z_M ad ca o) A s args) (F0 m 25 ls [.long t2, .long t1, .ref (ad 0)]) := by
  obtain ⟨hx, hb, hr, hlk, hml, hown, hts, hK, hA⟩ := id C0
  intro H locs ls hw hl
  obtain ⟨r3, er3, h⟩ := ok_b h
  refine z_vv (rest := []) C0 hw (c_Mo_multiply t1 t2 q r3 er3) mw_Mo_multiply ml_Mo_386 0 rfl ⟨Nat.le_of_ble_eq_true rfl, Nat.le_of_ble_eq_true rfl⟩ ⟨Nat.le_refl 0, Nat.le_refl 0⟩ rfl hl.1 rfl (Nat.le_of_ble_eq_true rfl) d_Mo_multiplySigned_25 (fun H locs hw => ?_)
  refine lv_lload_n hx hb d_Mo_multiplySigned_28 rfl (lv_at hl 1 rfl) ?_
  refine lv_lconst (v := (0 : Int64)) hx hb d_Mo_multiplySigned_29 (by decide) ?_
  refine W.lcmp hx hb d_Mo_multiplySigned_30 ?_
  refine lv_if_ge (tgt := 38) hx hb d_Mo_multiplySigned_31 (by decide) (fun c4 => ?_) (fun c4 => ?_)
  · have h := ok_t h ((lg_cmp_ge _ _).mp c4)
    refine lv_iconst (v := (0 : Int32)) hx hb d_Mo_multiplySigned_38 (by decide) ?_
    exact w_Mo_multiplySigned_39 o C0 r3 x3 (0 : Int32) h H locs ls hw (lv_sub hl [0, 2] rfl)
  · have h := ok_f h (fun z => c4 ((lg_cmp_ge _ _).mpr z))
    refine lv_iconst (v := (1 : Int32)) hx hb d_Mo_multiplySigned_34 (by decide) ?_
    refine lv_goto (tgt := 39) hx hb d_Mo_multiplySigned_35 (by decide) ?_
    exact w_Mo_multiplySigned_39 o C0 r3 x3 (1 : Int32) h H locs ls hw (lv_sub hl [0, 2] rfl)
set_option maxHeartbeats 4000000 in
set_option maxRecDepth 100000 in
theorem w_Mo_multiplySigned_13 {p : Program} {l : Launch} {e : Env} {s : State} {m : MethodId} {args : Array Value} {below : List Frame} {meth : Method} {c : Code} {D : va_G} {A : Nat → Prop} {ad : Nat → Nat} {ca : Nat → ClassId} (o : z_Sg) (C0 : z_cx z_RMo b_Mo_multiplySigned 5 none D (z_Mt ca) A p s m args meth c) (q : z_Sg) (x1 : Int64) (x3 : Int64) (t1 : Int64) (h : k_Mo_multiplySigned_13 x1 x3 t1 q = some o) : ∀ (H : Heap) (locs : List Loc) (ls : Array Slot), z_wd D (z_M ad ca q) A s H locs → lv_has ls 5 [(0, .ref (ad 0)), (1, .long x1), (3, .long x3)] → W p l e (z_rm 1 32) s m args below meth c H locs 0 0 (z_qv below D (z_Mt ca) (z_M ad ca o) A s args) (F0 m 13 ls [.long t1, .ref (ad 0)]) := by
  obtain ⟨hx, hb, hr, hlk, hml, hown, hts, hK, hA⟩ := id C0
  intro H locs ls hw hl
  refine lv_lload_n hx hb d_Mo_multiplySigned_13 rfl (lv_at hl 2 rfl) ?_
  refine lv_lconst (v := (0 : Int64)) hx hb d_Mo_multiplySigned_14 (by decide) ?_
  refine W.lcmp hx hb d_Mo_multiplySigned_15 ?_
  refine lv_if_ge (tgt := 24) hx hb d_Mo_multiplySigned_16 (by decide) (fun c2 => ?_) (fun c2 => ?_)
  · have h := ok_t h ((lg_cmp_ge _ _).mp c2)
    refine lv_lload_n hx hb d_Mo_multiplySigned_24 rfl (lv_at hl 2 rfl) ?_
    exact w_Mo_multiplySigned_25 o C0 q x1 x3 t1 x3 h H locs ls hw (lv_sub hl [0, 1, 2] rfl)
  · have h := ok_f h (fun z => c2 ((lg_cmp_ge _ _).mpr z))
    refine lv_lload_n hx hb d_Mo_multiplySigned_19 rfl (lv_at hl 2 rfl) ?_
    refine lv_lneg hx hb d_Mo_multiplySigned_20 ?_
    refine lv_goto (tgt := 25) hx hb d_Mo_multiplySigned_21 (by decide) ?_
    exact w_Mo_multiplySigned_25 o C0 q x1 x3 t1 (-x3) h H locs ls hw (lv_sub hl [0, 1, 2] rfl)
set_option maxHeartbeats 4000000 in
set_option maxRecDepth 100000 in
theorem c_Mo_multiplySigned {l : Launch} {D : va_G} {ad : Nat → Nat} {ca : Nat → ClassId} (x1 : Int64) (x3 : Int64) (q : z_Sg) (o : z_Sg) (h : f_Mo_multiplySigned x1 x3 q = some o) : z_cv l y_Mo_multiplySigned b_Mo_multiplySigned 5 none 1 32 D (z_Mt ca) (z_M ad ca q) (z_M ad ca o) [.ref (ad 0), .long x1, .long x3] := by
  refine z_cv_of (own := z_RMo) (by decide) rfl ?_
  intro p e s m below meth c A C0 hw
  obtain ⟨hx, hb, hr, hlk, hml, hown, hts, hK, hA⟩ := id C0
  generalize hH : s.heap = H at hw ⊢
  generalize hlo : ([] : List Loc) = locs at hw ⊢
  refine z_entry (lv := [(0, .ref (ad 0)), (1, .long x1), (3, .long x3)]) (Nat.le_of_ble_eq_true rfl) rfl (fun ls hl => ?_)
  unfold f_Mo_multiplySigned at h
  refine lv_aload_n hx hb d_Mo_multiplySigned_0 rfl (lv_at hl 0 rfl) ?_
  refine lv_lload_n hx hb d_Mo_multiplySigned_1 rfl (lv_at hl 1 rfl) ?_
  refine lv_lconst (v := (0 : Int64)) hx hb d_Mo_multiplySigned_2 (by decide) ?_
  refine W.lcmp hx hb d_Mo_multiplySigned_3 ?_
  refine lv_if_ge (tgt := 12) hx hb d_Mo_multiplySigned_4 (by decide) (fun c1 => ?_) (fun c1 => ?_)
  · have h := ok_t h ((lg_cmp_ge _ _).mp c1)
    refine lv_lload_n hx hb d_Mo_multiplySigned_12 rfl (lv_at hl 1 rfl) ?_
    exact w_Mo_multiplySigned_13 o C0 q x1 x3 x1 h H locs ls hw (lv_sub hl [0, 1, 2] rfl)
  · have h := ok_f h (fun z => c1 ((lg_cmp_ge _ _).mpr z))
    refine lv_lload_n hx hb d_Mo_multiplySigned_7 rfl (lv_at hl 1 rfl) ?_
    refine lv_lneg hx hb d_Mo_multiplySigned_8 ?_
    refine lv_goto (tgt := 13) hx hb d_Mo_multiplySigned_9 (by decide) ?_
    exact w_Mo_multiplySigned_13 o C0 q x1 x3 (-x1) h H locs ls hw (lv_sub hl [0, 1, 2] rfl)
def k_Mo_multiplyOperand_158 (t1 : Int32) (q : z_Sg) : Option z_Sg :=
  (f_Mo_muchFlags t1 q).bind (fun r12 => some r12)
def k_Mo_multiplyOperand_149 (t1 : Int64) (t2 : Int64) (q : z_Sg) : Option z_Sg :=
  if t1 = t2 then (k_Mo_multiplyOperand_158 (0 : Int32) q) else (k_Mo_multiplyOperand_158 (1 : Int32) q)
def k_Mo_multiplyOperand_148 (t1 : Int64) (q : z_Sg) : Option z_Sg :=
  k_Mo_multiplyOperand_149 t1 (0 : Int64) q
def k_Mo_multiplyOperand_121 (x3 : Int32) (x4 : Int32) (x7 : Int64) (x9 : Int64) (q : z_Sg) : Option z_Sg :=
  if x4 = 0 then (k_Mo_multiplyOperand_148 x9 q) else ((f_Mo_top x7 x3 q).bind (fun r13 => if r13 = 0 then (k_Mo_multiplyOperand_148 x9 q) else ((f_Mo_lowest (-1 : Int64) x3 q).bind (fun r15 => k_Mo_multiplyOperand_149 x9 r15 q))))
def k_Mo_multiplyOperand_108 (x3 : Int32) (x4 : Int32) (x7 : Int64) (x9 : Int64) (q : z_Sg) : Option z_Sg :=
  if x3 ≤ (1 : Int32) then (k_Mo_multiplyOperand_121 x3 x4 x7 x9 q) else ((f_Mo_put8 (2 : Int32) x3 x9 q).bind (fun r16 => k_Mo_multiplyOperand_121 x3 x4 x7 x9 r16))
def k_Mo_multiplyOperand_95 (x3 : Int32) (x4 : Int32) (x7 : Int64) (x9 : Int64) (q : z_Sg) : Option z_Sg :=
  if x3 ≤ (1 : Int32) then (k_Mo_multiplyOperand_108 x3 x4 x7 x9 q) else ((f_Mo_put8 (0 : Int32) x3 x7 q).bind (fun r17 => k_Mo_multiplyOperand_108 x3 x4 x7 x9 r17))
def k_Mo_multiplyOperand_74 (x3 : Int32) (x4 : Int32) (x7 : Int64) (t0 : Int64) (q : z_Sg) : Option z_Sg :=
  if x3 = (1 : Int32) then ((f_Mo_put8 (0 : Int32) (2 : Int32) ((z_lshl t0 (8 : Int32)) ||| x7) q).bind (fun r18 => k_Mo_multiplyOperand_95 x3 x4 x7 t0 r18)) else (k_Mo_multiplyOperand_95 x3 x4 x7 t0 q)
def k_Mo_multiplyOperand_38 (x3 : Int32) (x4 : Int32) (q : z_Sg) : Option z_Sg :=
  (f_Mo_lowest (z_gL q 8) x3 q).bind (fun r4 => if x3 = (8 : Int32) then (k_Mo_multiplyOperand_74 x3 x4 r4 (z_gL q 9) q) else ((f_Mo_lowest (z_lushr (z_gL q 8) ((8 : Int32) * x3)) x3 q).bind (fun r6 => k_Mo_multiplyOperand_74 x3 x4 r4 r6 q)))
def f_Mo_multiplyOperand (x1 : Int64) (x3 : Int32) (x4 : Int32) (q : z_Sg) : Option z_Sg :=
  (f_Mo_get8 (0 : Int32) x3 q).bind (fun r1 => if x4 = 0 then ((f_Mo_multiply r1 x1 q).bind (fun r3 => k_Mo_multiplyOperand_38 x3 x4 r3)) else ((f_Mo_extended r1 x3 q).bind (fun r19 => (f_Mo_extended x1 x3 q).bind (fun r20 => (f_Mo_multiplySigned r19 r20 q).bind (fun r21 => k_Mo_multiplyOperand_38 x3 x4 r21)))))
set_option maxHeartbeats 4000000 in
set_option maxRecDepth 100000 in
theorem w_Mo_multiplyOperand_158 {p : Program} {l : Launch} {e : Env} {s : State} {m : MethodId} {args : Array Value} {below : List Frame} {meth : Method} {c : Code} {D : va_G} {A : Nat → Prop} {ad : Nat → Nat} {ca : Nat → ClassId} (o : z_Sg) (C0 : z_cx z_RMo b_Mo_multiplyOperand 11 none D (z_Mt ca) A p s m args meth c) (q : z_Sg) (t1 : Int32) (h : k_Mo_multiplyOperand_158 t1 q = some o) : ∀ (H : Heap) (locs : List Loc) (ls : Array Slot), z_wd D (z_M ad ca q) A s H locs → lv_has ls 11 [] → W p l e (z_rm 3 63) s m args below meth c H locs 0 0 (z_qv below D (z_Mt ca) (z_M ad ca o) A s args) (F0 m 158 ls [.int t1, .ref (ad 0)]) := by
  obtain ⟨hx, hb, hr, hlk, hml, hown, hts, hK, hA⟩ := id C0
  intro H locs ls hw hl
  obtain ⟨r12, er12, h⟩ := ok_b h
  refine z_vv (rest := []) C0 hw (c_Mo_muchFlags t1 q r12 er12) mw_Mo_muchFlags ml_Mo_396 0 rfl ⟨Nat.le_of_ble_eq_true rfl, Nat.le_of_ble_eq_true rfl⟩ ⟨Nat.le_refl 0, Nat.le_refl 0⟩ rfl hl.1 rfl (Nat.le_of_ble_eq_true rfl) d_Mo_multiplyOperand_158 (fun H locs hw => ?_)
  have ho := Option.some.inj h
  subst ho
  exact z_rtv C0 hw d_Mo_multiplyOperand_161
set_option maxHeartbeats 4000000 in
set_option maxRecDepth 100000 in
theorem w_Mo_multiplyOperand_149 {p : Program} {l : Launch} {e : Env} {s : State} {m : MethodId} {args : Array Value} {below : List Frame} {meth : Method} {c : Code} {D : va_G} {A : Nat → Prop} {ad : Nat → Nat} {ca : Nat → ClassId} (o : z_Sg) (C0 : z_cx z_RMo b_Mo_multiplyOperand 11 none D (z_Mt ca) A p s m args meth c) (q : z_Sg) (t1 : Int64) (t2 : Int64) (h : k_Mo_multiplyOperand_149 t1 t2 q = some o) : ∀ (H : Heap) (locs : List Loc) (ls : Array Slot), z_wd D (z_M ad ca q) A s H locs → lv_has ls 11 [] → W p l e (z_rm 3 63) s m args below meth c H locs 0 0 (z_qv below D (z_Mt ca) (z_M ad ca o) A s args) (F0 m 149 ls [.long t2, .long t1, .ref (ad 0)]) := by
  obtain ⟨hx, hb, hr, hlk, hml, hown, hts, hK, hA⟩ := id C0
  intro H locs ls hw hl
  refine W.lcmp hx hb d_Mo_multiplyOperand_149 ?_
  refine lv_if_eq (tgt := 157) hx hb d_Mo_multiplyOperand_150 (by decide) (fun c11 => ?_) (fun c11 => ?_)
  · have h := ok_t h ((lg_cmp_eq _ _).mp c11)
    refine lv_iconst (v := (0 : Int32)) hx hb d_Mo_multiplyOperand_157 (by decide) ?_
    exact w_Mo_multiplyOperand_158 o C0 q (0 : Int32) h H locs ls hw (lv_sub hl [] rfl)
  · have h := ok_f h (fun z => c11 ((lg_cmp_eq _ _).mpr z))
    refine lv_iconst (v := (1 : Int32)) hx hb d_Mo_multiplyOperand_153 (by decide) ?_
    refine lv_goto (tgt := 158) hx hb d_Mo_multiplyOperand_154 (by decide) ?_
    exact w_Mo_multiplyOperand_158 o C0 q (1 : Int32) h H locs ls hw (lv_sub hl [] rfl)
set_option maxHeartbeats 4000000 in
set_option maxRecDepth 100000 in
theorem w_Mo_multiplyOperand_148 {p : Program} {l : Launch} {e : Env} {s : State} {m : MethodId} {args : Array Value} {below : List Frame} {meth : Method} {c : Code} {D : va_G} {A : Nat → Prop} {ad : Nat → Nat} {ca : Nat → ClassId} (o : z_Sg) (C0 : z_cx z_RMo b_Mo_multiplyOperand 11 none D (z_Mt ca) A p s m args meth c) (q : z_Sg) (t1 : Int64) (h : k_Mo_multiplyOperand_148 t1 q = some o) : ∀ (H : Heap) (locs : List Loc) (ls : Array Slot), z_wd D (z_M ad ca q) A s H locs → lv_has ls 11 [] → W p l e (z_rm 3 63) s m args below meth c H locs 0 0 (z_qv below D (z_Mt ca) (z_M ad ca o) A s args) (F0 m 148 ls [.long t1, .ref (ad 0)]) := by
  obtain ⟨hx, hb, hr, hlk, hml, hown, hts, hK, hA⟩ := id C0
  intro H locs ls hw hl
  refine lv_lconst (v := (0 : Int64)) hx hb d_Mo_multiplyOperand_148 (by decide) ?_
  exact w_Mo_multiplyOperand_149 o C0 q t1 (0 : Int64) h H locs ls hw (lv_sub hl [] rfl)
set_option maxHeartbeats 4000000 in
set_option maxRecDepth 100000 in
theorem w_Mo_multiplyOperand_121 {p : Program} {l : Launch} {e : Env} {s : State} {m : MethodId} {args : Array Value} {below : List Frame} {meth : Method} {c : Code} {D : va_G} {A : Nat → Prop} {ad : Nat → Nat} {ca : Nat → ClassId} (o : z_Sg) (C0 : z_cx z_RMo b_Mo_multiplyOperand 11 none D (z_Mt ca) A p s m args meth c) (q : z_Sg) (x3 : Int32) (x4 : Int32) (x7 : Int64) (x9 : Int64) (h : k_Mo_multiplyOperand_121 x3 x4 x7 x9 q = some o) : ∀ (H : Heap) (locs : List Loc) (ls : Array Slot), z_wd D (z_M ad ca q) A s H locs → lv_has ls 11 [(0, .ref (ad 0)), (3, .int x3), (4, .int x4), (7, .long x7), (9, .long x9)] → W p l e (z_rm 3 63) s m args below meth c H locs 0 0 (z_qv below D (z_Mt ca) (z_M ad ca o) A s args) (F0 m 121 ls []) := by
  obtain ⟨hx, hb, hr, hlk, hml, hown, hts, hK, hA⟩ := id C0
  intro H locs ls hw hl
  refine lv_aload_n hx hb d_Mo_multiplyOperand_121 rfl (lv_at hl 0 rfl) ?_
  refine lv_lload hx hb d_Mo_multiplyOperand_122 (lv_at hl 4 rfl) ?_
  refine lv_iload hx hb d_Mo_multiplyOperand_124 (lv_at hl 2 rfl) ?_
  refine lv_if_eq (tgt := 148) hx hb d_Mo_multiplyOperand_126 (by decide) (fun c10 => ?_) (fun c10 => ?_)
  · have h := ok_t h c10
    exact w_Mo_multiplyOperand_148 o C0 q x9 h H locs ls hw (lv_sub hl [] rfl)
  · have h := ok_f h c10
    refine lv_lload hx hb d_Mo_multiplyOperand_129 (lv_at hl 3 rfl) ?_
    refine lv_iload_n hx hb d_Mo_multiplyOperand_131 rfl (lv_at hl 1 rfl) ?_
    obtain ⟨r13, er13, h⟩ := ok_b h
    refine z_si (rest := [.long x9, .ref (ad 0)]) C0 hw (c_Mo_top x7 x3 q r13 er13) mw_Mo_top ml_Mo_212 ⟨Nat.le_of_ble_eq_true rfl, Nat.le_of_ble_eq_true rfl⟩ ⟨Nat.le_refl 0, Nat.le_refl 0⟩ rfl hl.1 rfl (Nat.le_of_ble_eq_true rfl) d_Mo_multiplyOperand_132 (fun H locs hw => ?_)
    refine lv_if_eq (tgt := 148) hx hb d_Mo_multiplyOperand_135 (by decide) (fun c14 => ?_) (fun c14 => ?_)
    · have h := ok_t h c14
      exact w_Mo_multiplyOperand_148 o C0 q x9 h H locs ls hw (lv_sub hl [] rfl)
    · have h := ok_f h c14
      refine lv_ldc2 (own := z_RMo) hx hb hown (hts _ kl_Mo_71) d_Mo_multiplyOperand_138 ?_
      refine lv_iload_n hx hb d_Mo_multiplyOperand_141 rfl (lv_at hl 1 rfl) ?_
      obtain ⟨r15, er15, h⟩ := ok_b h
      refine z_sl (rest := [.long x9, .ref (ad 0)]) C0 hw (c_Mo_lowest (-1 : Int64) x3 q r15 er15) mw_Mo_lowest ml_Mo_180 ⟨Nat.le_of_ble_eq_true rfl, Nat.le_of_ble_eq_true rfl⟩ ⟨Nat.le_refl 0, Nat.le_refl 0⟩ rfl hl.1 rfl (Nat.le_of_ble_eq_true rfl) d_Mo_multiplyOperand_142 (fun H locs hw => ?_)
      refine lv_goto (tgt := 149) hx hb d_Mo_multiplyOperand_145 (by decide) ?_
      exact w_Mo_multiplyOperand_149 o C0 q x9 r15 h H locs ls hw (lv_sub hl [] rfl)
set_option maxHeartbeats 4000000 in
set_option maxRecDepth 100000 in
theorem w_Mo_multiplyOperand_108 {p : Program} {l : Launch} {e : Env} {s : State} {m : MethodId} {args : Array Value} {below : List Frame} {meth : Method} {c : Code} {D : va_G} {A : Nat → Prop} {ad : Nat → Nat} {ca : Nat → ClassId} (o : z_Sg) (C0 : z_cx z_RMo b_Mo_multiplyOperand 11 none D (z_Mt ca) A p s m args meth c) (q : z_Sg) (x3 : Int32) (x4 : Int32) (x7 : Int64) (x9 : Int64) (h : k_Mo_multiplyOperand_108 x3 x4 x7 x9 q = some o) : ∀ (H : Heap) (locs : List Loc) (ls : Array Slot), z_wd D (z_M ad ca q) A s H locs → lv_has ls 11 [(0, .ref (ad 0)), (3, .int x3), (4, .int x4), (7, .long x7), (9, .long x9)] → W p l e (z_rm 3 63) s m args below meth c H locs 0 0 (z_qv below D (z_Mt ca) (z_M ad ca o) A s args) (F0 m 108 ls []) := by
  obtain ⟨hx, hb, hr, hlk, hml, hown, hts, hK, hA⟩ := id C0
  intro H locs ls hw hl
  refine lv_iload_n hx hb d_Mo_multiplyOperand_108 rfl (lv_at hl 1 rfl) ?_
  refine lv_iconst (v := (1 : Int32)) hx hb d_Mo_multiplyOperand_109 (by decide) ?_
  refine lv_icmp_le (tgt := 121) hx hb d_Mo_multiplyOperand_110 (by decide) (fun c9 => ?_) (fun c9 => ?_)
  · have h := ok_t h c9
    exact w_Mo_multiplyOperand_121 o C0 q x3 x4 x7 x9 h H locs ls hw (lv_sub hl [0, 1, 2, 3, 4] rfl)
  · have h := ok_f h c9
    refine lv_aload_n hx hb d_Mo_multiplyOperand_113 rfl (lv_at hl 0 rfl) ?_
    refine lv_iconst (v := (2 : Int32)) hx hb d_Mo_multiplyOperand_114 (by decide) ?_
    refine lv_iload_n hx hb d_Mo_multiplyOperand_115 rfl (lv_at hl 1 rfl) ?_
    refine lv_lload hx hb d_Mo_multiplyOperand_116 (lv_at hl 4 rfl) ?_
    obtain ⟨r16, er16, h⟩ := ok_b h
    refine z_vv (rest := []) C0 hw (c_Mo_put8 (2 : Int32) x3 x9 q r16 er16) mw_Mo_put8 ml_Mo_189 0 rfl ⟨Nat.le_of_ble_eq_true rfl, Nat.le_of_ble_eq_true rfl⟩ ⟨Nat.le_refl 0, Nat.le_refl 0⟩ rfl hl.1 rfl (Nat.le_of_ble_eq_true rfl) d_Mo_multiplyOperand_118 (fun H locs hw => ?_)
    exact w_Mo_multiplyOperand_121 o C0 r16 x3 x4 x7 x9 h H locs ls hw (lv_sub hl [0, 1, 2, 3, 4] rfl)
set_option maxHeartbeats 4000000 in
set_option maxRecDepth 100000 in
theorem w_Mo_multiplyOperand_95 {p : Program} {l : Launch} {e : Env} {s : State} {m : MethodId} {args : Array Value} {below : List Frame} {meth : Method} {c : Code} {D : va_G} {A : Nat → Prop} {ad : Nat → Nat} {ca : Nat → ClassId} (o : z_Sg) (C0 : z_cx z_RMo b_Mo_multiplyOperand 11 none D (z_Mt ca) A p s m args meth c) (q : z_Sg) (x3 : Int32) (x4 : Int32) (x7 : Int64) (x9 : Int64) (h : k_Mo_multiplyOperand_95 x3 x4 x7 x9 q = some o) : ∀ (H : Heap) (locs : List Loc) (ls : Array Slot), z_wd D (z_M ad ca q) A s H locs → lv_has ls 11 [(0, .ref (ad 0)), (3, .int x3), (4, .int x4), (7, .long x7), (9, .long x9)] → W p l e (z_rm 3 63) s m args below meth c H locs 0 0 (z_qv below D (z_Mt ca) (z_M ad ca o) A s args) (F0 m 95 ls []) := by
  obtain ⟨hx, hb, hr, hlk, hml, hown, hts, hK, hA⟩ := id C0
  intro H locs ls hw hl
  refine lv_iload_n hx hb d_Mo_multiplyOperand_95 rfl (lv_at hl 1 rfl) ?_
  refine lv_iconst (v := (1 : Int32)) hx hb d_Mo_multiplyOperand_96 (by decide) ?_
  refine lv_icmp_le (tgt := 108) hx hb d_Mo_multiplyOperand_97 (by decide) (fun c8 => ?_) (fun c8 => ?_)
  · have h := ok_t h c8
    exact w_Mo_multiplyOperand_108 o C0 q x3 x4 x7 x9 h H locs ls hw (lv_sub hl [0, 1, 2, 3, 4] rfl)
  · have h := ok_f h c8
    refine lv_aload_n hx hb d_Mo_multiplyOperand_100 rfl (lv_at hl 0 rfl) ?_
    refine lv_iconst (v := (0 : Int32)) hx hb d_Mo_multiplyOperand_101 (by decide) ?_
    refine lv_iload_n hx hb d_Mo_multiplyOperand_102 rfl (lv_at hl 1 rfl) ?_
    refine lv_lload hx hb d_Mo_multiplyOperand_103 (lv_at hl 3 rfl) ?_
    obtain ⟨r17, er17, h⟩ := ok_b h
    refine z_vv (rest := []) C0 hw (c_Mo_put8 (0 : Int32) x3 x7 q r17 er17) mw_Mo_put8 ml_Mo_189 0 rfl ⟨Nat.le_of_ble_eq_true rfl, Nat.le_of_ble_eq_true rfl⟩ ⟨Nat.le_refl 0, Nat.le_refl 0⟩ rfl hl.1 rfl (Nat.le_of_ble_eq_true rfl) d_Mo_multiplyOperand_105 (fun H locs hw => ?_)
    exact w_Mo_multiplyOperand_108 o C0 r17 x3 x4 x7 x9 h H locs ls hw (lv_sub hl [0, 1, 2, 3, 4] rfl)
set_option maxHeartbeats 4000000 in
set_option maxRecDepth 100000 in
theorem w_Mo_multiplyOperand_74 {p : Program} {l : Launch} {e : Env} {s : State} {m : MethodId} {args : Array Value} {below : List Frame} {meth : Method} {c : Code} {D : va_G} {A : Nat → Prop} {ad : Nat → Nat} {ca : Nat → ClassId} (o : z_Sg) (C0 : z_cx z_RMo b_Mo_multiplyOperand 11 none D (z_Mt ca) A p s m args meth c) (q : z_Sg) (x3 : Int32) (x4 : Int32) (x7 : Int64) (t0 : Int64) (h : k_Mo_multiplyOperand_74 x3 x4 x7 t0 q = some o) : ∀ (H : Heap) (locs : List Loc) (ls : Array Slot), z_wd D (z_M ad ca q) A s H locs → lv_has ls 11 [(0, .ref (ad 0)), (3, .int x3), (4, .int x4), (7, .long x7)] → W p l e (z_rm 3 63) s m args below meth c H locs 0 0 (z_qv below D (z_Mt ca) (z_M ad ca o) A s args) (F0 m 74 ls [.long t0]) := by
  obtain ⟨hx, hb, hr, hlk, hml, hown, hts, hK, hA⟩ := id C0
  intro H locs ls hw hl
  refine lv_lstore (lv' := [(9, .long t0), (0, .ref (ad 0)), (3, .int x3), (4, .int x4), (7, .long x7)]) hx hb d_Mo_multiplyOperand_74 hl (by decide) rfl (fun ls hl => ?_)
  refine lv_iload_n hx hb d_Mo_multiplyOperand_76 rfl (lv_at hl 2 rfl) ?_
  refine lv_iconst (v := (1 : Int32)) hx hb d_Mo_multiplyOperand_77 (by decide) ?_
  refine lv_icmp_ne (tgt := 95) hx hb d_Mo_multiplyOperand_78 (by decide) (fun c7 => ?_) (fun c7 => ?_)
  · have h := ok_f h c7
    exact w_Mo_multiplyOperand_95 o C0 q x3 x4 x7 t0 h H locs ls hw (lv_sub hl [1, 2, 3, 4, 0] rfl)
  · have h := ok_t h c7
    refine lv_aload_n hx hb d_Mo_multiplyOperand_81 rfl (lv_at hl 1 rfl) ?_
    refine lv_iconst (v := (0 : Int32)) hx hb d_Mo_multiplyOperand_82 (by decide) ?_
    refine lv_iconst (v := (2 : Int32)) hx hb d_Mo_multiplyOperand_83 (by decide) ?_
    refine lv_lload hx hb d_Mo_multiplyOperand_84 (lv_at hl 0 rfl) ?_
    refine lv_bipush (v := (8 : Int32)) hx hb d_Mo_multiplyOperand_86 (by decide) ?_
    refine lv_lshl (v := (z_lshl t0 (8 : Int32))) hx hb d_Mo_multiplyOperand_88 rfl ?_
    refine lv_lload hx hb d_Mo_multiplyOperand_89 (lv_at hl 4 rfl) ?_
    refine lv_lor hx hb d_Mo_multiplyOperand_91 ?_
    obtain ⟨r18, er18, h⟩ := ok_b h
    refine z_vv (rest := []) C0 hw (c_Mo_put8 (0 : Int32) (2 : Int32) ((z_lshl t0 (8 : Int32)) ||| x7) q r18 er18) mw_Mo_put8 ml_Mo_189 0 rfl ⟨Nat.le_of_ble_eq_true rfl, Nat.le_of_ble_eq_true rfl⟩ ⟨Nat.le_refl 0, Nat.le_refl 0⟩ rfl hl.1 rfl (Nat.le_of_ble_eq_true rfl) d_Mo_multiplyOperand_92 (fun H locs hw => ?_)
    exact w_Mo_multiplyOperand_95 o C0 r18 x3 x4 x7 t0 h H locs ls hw (lv_sub hl [1, 2, 3, 4, 0] rfl)
set_option maxHeartbeats 4000000 in
set_option maxRecDepth 100000 in
theorem w_Mo_multiplyOperand_38 {p : Program} {l : Launch} {e : Env} {s : State} {m : MethodId} {args : Array Value} {below : List Frame} {meth : Method} {c : Code} {D : va_G} {A : Nat → Prop} {ad : Nat → Nat} {ca : Nat → ClassId} (o : z_Sg) (C0 : z_cx z_RMo b_Mo_multiplyOperand 11 none D (z_Mt ca) A p s m args meth c) (q : z_Sg) (x3 : Int32) (x4 : Int32) (h : k_Mo_multiplyOperand_38 x3 x4 q = some o) : ∀ (H : Heap) (locs : List Loc) (ls : Array Slot), z_wd D (z_M ad ca q) A s H locs → lv_has ls 11 [(0, .ref (ad 0)), (3, .int x3), (4, .int x4)] → W p l e (z_rm 3 63) s m args below meth c H locs 0 0 (z_qv below D (z_Mt ca) (z_M ad ca o) A s args) (F0 m 38 ls []) := by
  obtain ⟨hx, hb, hr, hlk, hml, hown, hts, hK, hA⟩ := id C0
  intro H locs ls hw hl
  refine lv_aload_n hx hb d_Mo_multiplyOperand_38 rfl (lv_at hl 0 rfl) ?_
  refine gfM_0_low C0 hw fl_Mo_380 d_Mo_multiplyOperand_39 ?_
  refine lv_iload_n hx hb d_Mo_multiplyOperand_42 rfl (lv_at hl 1 rfl) ?_
  obtain ⟨r4, er4, h⟩ := ok_b h
  refine z_sl (rest := []) C0 hw (c_Mo_lowest (z_gL q 8) x3 q r4 er4) mw_Mo_lowest ml_Mo_180 ⟨Nat.le_of_ble_eq_true rfl, Nat.le_of_ble_eq_true rfl⟩ ⟨Nat.le_refl 0, Nat.le_refl 0⟩ rfl hl.1 rfl (Nat.le_of_ble_eq_true rfl) d_Mo_multiplyOperand_43 (fun H locs hw => ?_)
  refine lv_lstore (lv' := [(7, .long r4), (0, .ref (ad 0)), (3, .int x3), (4, .int x4)]) hx hb d_Mo_multiplyOperand_46 hl (by decide) rfl (fun ls hl => ?_)
  refine lv_iload_n hx hb d_Mo_multiplyOperand_48 rfl (lv_at hl 2 rfl) ?_
  refine lv_bipush (v := (8 : Int32)) hx hb d_Mo_multiplyOperand_49 (by decide) ?_
  refine lv_icmp_ne (tgt := 61) hx hb d_Mo_multiplyOperand_51 (by decide) (fun c5 => ?_) (fun c5 => ?_)
  · have h := ok_f h c5
    refine lv_aload_n hx hb d_Mo_multiplyOperand_61 rfl (lv_at hl 1 rfl) ?_
    refine gfM_0_low C0 hw fl_Mo_380 d_Mo_multiplyOperand_62 ?_
    refine lv_bipush (v := (8 : Int32)) hx hb d_Mo_multiplyOperand_65 (by decide) ?_
    refine lv_iload_n hx hb d_Mo_multiplyOperand_67 rfl (lv_at hl 2 rfl) ?_
    refine lv_imul hx hb d_Mo_multiplyOperand_68 ?_
    refine lv_lushr (v := (z_lushr (z_gL q 8) ((8 : Int32) * x3))) hx hb d_Mo_multiplyOperand_69 rfl ?_
    refine lv_iload_n hx hb d_Mo_multiplyOperand_70 rfl (lv_at hl 2 rfl) ?_
    obtain ⟨r6, er6, h⟩ := ok_b h
    refine z_sl (rest := []) C0 hw (c_Mo_lowest (z_lushr (z_gL q 8) ((8 : Int32) * x3)) x3 q r6 er6) mw_Mo_lowest ml_Mo_180 ⟨Nat.le_of_ble_eq_true rfl, Nat.le_of_ble_eq_true rfl⟩ ⟨Nat.le_refl 0, Nat.le_refl 0⟩ rfl hl.1 rfl (Nat.le_of_ble_eq_true rfl) d_Mo_multiplyOperand_71 (fun H locs hw => ?_)
    exact w_Mo_multiplyOperand_74 o C0 q x3 x4 r4 r6 h H locs ls hw (lv_sub hl [1, 2, 3, 0] rfl)
  · have h := ok_t h c5
    refine lv_aload_n hx hb d_Mo_multiplyOperand_54 rfl (lv_at hl 1 rfl) ?_
    refine gfM_0_high C0 hw fl_Mo_383 d_Mo_multiplyOperand_55 ?_
    refine lv_goto (tgt := 74) hx hb d_Mo_multiplyOperand_58 (by decide) ?_
    exact w_Mo_multiplyOperand_74 o C0 q x3 x4 r4 (z_gL q 9) h H locs ls hw (lv_sub hl [1, 2, 3, 0] rfl)
set_option maxHeartbeats 4000000 in
set_option maxRecDepth 100000 in
theorem c_Mo_multiplyOperand {l : Launch} {D : va_G} {ad : Nat → Nat} {ca : Nat → ClassId} (x1 : Int64) (x3 : Int32) (x4 : Int32) (q : z_Sg) (o : z_Sg) (h : f_Mo_multiplyOperand x1 x3 x4 q = some o) : z_cv l y_Mo_multiplyOperand b_Mo_multiplyOperand 11 none 3 63 D (z_Mt ca) (z_M ad ca q) (z_M ad ca o) [.ref (ad 0), .long x1, .int x3, .int x4] := by
  refine z_cv_of (own := z_RMo) (by decide) rfl ?_
  intro p e s m below meth c A C0 hw
  obtain ⟨hx, hb, hr, hlk, hml, hown, hts, hK, hA⟩ := id C0
  generalize hH : s.heap = H at hw ⊢
  generalize hlo : ([] : List Loc) = locs at hw ⊢
  refine z_entry (lv := [(0, .ref (ad 0)), (1, .long x1), (3, .int x3), (4, .int x4)]) (Nat.le_of_ble_eq_true rfl) rfl (fun ls hl => ?_)
  unfold f_Mo_multiplyOperand at h
  refine lv_aload_n hx hb d_Mo_multiplyOperand_0 rfl (lv_at hl 0 rfl) ?_
  refine lv_iconst (v := (0 : Int32)) hx hb d_Mo_multiplyOperand_1 (by decide) ?_
  refine lv_iload_n hx hb d_Mo_multiplyOperand_2 rfl (lv_at hl 2 rfl) ?_
  obtain ⟨r1, er1, h⟩ := ok_b h
  refine z_vl (rest := []) C0 hw (c_Mo_get8 (0 : Int32) x3 q r1 er1) mw_Mo_get8 ml_Mo_185 0 rfl ⟨Nat.le_of_ble_eq_true rfl, Nat.le_of_ble_eq_true rfl⟩ ⟨Nat.le_refl 0, Nat.le_refl 0⟩ rfl hl.1 rfl (Nat.le_of_ble_eq_true rfl) d_Mo_multiplyOperand_3 (fun H locs hw => ?_)
  refine lv_lstore (lv' := [(5, .long r1), (0, .ref (ad 0)), (1, .long x1), (3, .int x3), (4, .int x4)]) hx hb d_Mo_multiplyOperand_6 hl (by decide) rfl (fun ls hl => ?_)
  refine lv_iload hx hb d_Mo_multiplyOperand_8 (lv_at hl 4 rfl) ?_
  refine lv_if_eq (tgt := 31) hx hb d_Mo_multiplyOperand_10 (by decide) (fun c2 => ?_) (fun c2 => ?_)
  · have h := ok_t h c2
    refine lv_aload_n hx hb d_Mo_multiplyOperand_31 rfl (lv_at hl 1 rfl) ?_
    refine lv_lload hx hb d_Mo_multiplyOperand_32 (lv_at hl 0 rfl) ?_
    refine lv_lload_n hx hb d_Mo_multiplyOperand_34 rfl (lv_at hl 2 rfl) ?_
    obtain ⟨r3, er3, h⟩ := ok_b h
    refine z_vv (rest := []) C0 hw (c_Mo_multiply r1 x1 q r3 er3) mw_Mo_multiply ml_Mo_386 0 rfl ⟨Nat.le_of_ble_eq_true rfl, Nat.le_of_ble_eq_true rfl⟩ ⟨Nat.le_refl 0, Nat.le_refl 0⟩ rfl hl.1 rfl (Nat.le_of_ble_eq_true rfl) d_Mo_multiplyOperand_35 (fun H locs hw => ?_)
    exact w_Mo_multiplyOperand_38 o C0 r3 x3 x4 h H locs ls hw (lv_sub hl [1, 3, 4] rfl)
  · have h := ok_f h c2
    refine lv_aload_n hx hb d_Mo_multiplyOperand_13 rfl (lv_at hl 1 rfl) ?_
    refine lv_lload hx hb d_Mo_multiplyOperand_14 (lv_at hl 0 rfl) ?_
    refine lv_iload_n hx hb d_Mo_multiplyOperand_16 rfl (lv_at hl 3 rfl) ?_
    obtain ⟨r19, er19, h⟩ := ok_b h
    refine z_sl (rest := [.ref (ad 0)]) C0 hw (c_Mo_extended r1 x3 q r19 er19) mw_Mo_extended ml_Mo_118 ⟨Nat.le_of_ble_eq_true rfl, Nat.le_of_ble_eq_true rfl⟩ ⟨Nat.le_refl 0, Nat.le_refl 0⟩ rfl hl.1 rfl (Nat.le_of_ble_eq_true rfl) d_Mo_multiplyOperand_17 (fun H locs hw => ?_)
    refine lv_lload_n hx hb d_Mo_multiplyOperand_20 rfl (lv_at hl 2 rfl) ?_
    refine lv_iload_n hx hb d_Mo_multiplyOperand_21 rfl (lv_at hl 3 rfl) ?_
    obtain ⟨r20, er20, h⟩ := ok_b h
    refine z_sl (rest := [.long r19, .ref (ad 0)]) C0 hw (c_Mo_extended x1 x3 q r20 er20) mw_Mo_extended ml_Mo_118 ⟨Nat.le_of_ble_eq_true rfl, Nat.le_of_ble_eq_true rfl⟩ ⟨Nat.le_refl 0, Nat.le_refl 0⟩ rfl hl.1 rfl (Nat.le_of_ble_eq_true rfl) d_Mo_multiplyOperand_22 (fun H locs hw => ?_)
    obtain ⟨r21, er21, h⟩ := ok_b h
    refine z_vv (rest := []) C0 hw (c_Mo_multiplySigned r19 r20 q r21 er21) mw_Mo_multiplySigned ml_Mo_393 0 rfl ⟨Nat.le_of_ble_eq_true rfl, Nat.le_of_ble_eq_true rfl⟩ ⟨Nat.le_refl 0, Nat.le_refl 0⟩ rfl hl.1 rfl (Nat.le_of_ble_eq_true rfl) d_Mo_multiplyOperand_25 (fun H locs hw => ?_)
    refine lv_goto (tgt := 38) hx hb d_Mo_multiplyOperand_28 (by decide) ?_
    exact w_Mo_multiplyOperand_38 o C0 r21 x3 x4 h H locs ls hw (lv_sub hl [1, 3, 4] rfl)
def k_Mo_unary_190 (q : z_Sg) : Option z_Sg :=
  some q
def k_Mo_unary_187 (t1 : Int64) (t2 : Int32) (t3 : Int32) (q : z_Sg) : Option z_Sg :=
  (f_Mo_divide t1 t2 t3 q).bind (fun r11 => k_Mo_unary_190 r11)
def k_Mo_unary_159 (t1 : Int64) (t2 : Int32) (t3 : Int32) (q : z_Sg) : Option z_Sg :=
  (f_Mo_multiplyOperand t1 t2 t3 q).bind (fun r14 => k_Mo_unary_190 r14)
def k_Mo_unary_18 (x1 : Int32) (q : z_Sg) : Option z_Sg :=
  (f_Mo_takePlace q).bind (fun r3 => z_nm (z_sL r3 7 ((z_gL r3 0) + ((z_gI r3 6).toInt64))) (fun q4 => if (z_gI q4 8) = 0 then ((f_Mo_four x1 q4).bind (fun r20 => (f_Mo_number r20 q4).bind (fun r21 => (f_Mo_lowest r21.1 x1 r21.2).bind (fun r22 => (f_Mo_e x1 (0 : Int32) r21.2).bind (fun r23 => (f_Mo_logic (r23.1 &&& r22) x1 r23.2).bind (fun r24 => k_Mo_unary_190 r24.2)))))) else (if (z_gI q4 8) = (2 : Int32) then ((f_Mo_e x1 (1 : Int32) q4).bind (fun r18 => (f_Mo_setE x1 (r18.1 ^^^ (-1 : Int64)) r18.2).bind (fun r19 => k_Mo_unary_190 r19))) else (if (z_gI q4 8) = (3 : Int32) then ((f_Mo_e x1 (1 : Int32) q4).bind (fun r15 => (f_Mo_add (0 : Int64) r15.1 (0 : Int32) (1 : Int32) x1 r15.2).bind (fun r16 => (f_Mo_setE x1 r16.1 r16.2).bind (fun r17 => k_Mo_unary_190 r17)))) else (if (6 : Int32) ≤ (z_gI q4 8) then ((f_Mo_e x1 (0 : Int32) q4).bind (fun r9 => if (z_gI r9.2 8) = (7 : Int32) then (k_Mo_unary_187 r9.1 x1 (1 : Int32) r9.2) else (k_Mo_unary_187 r9.1 x1 (0 : Int32) r9.2))) else ((f_Mo_e x1 (0 : Int32) q4).bind (fun r12 => if (z_gI r12.2 8) = (5 : Int32) then (k_Mo_unary_159 r12.1 x1 (1 : Int32) r12.2) else (k_Mo_unary_159 r12.1 x1 (0 : Int32) r12.2))))))))
def f_Mo_unary (x1 : Int32) (q : z_Sg) : Option z_Sg :=
  (f_Mo_takeMod q).bind (fun r1 => if (z_gI r1 8) = (1 : Int32) then ((f_Mo_refuse (6 : Int32) r1).bind (fun r25 => k_Mo_unary_18 x1 r25)) else (k_Mo_unary_18 x1 r1))
set_option maxHeartbeats 4000000 in
set_option maxRecDepth 100000 in
theorem w_Mo_unary_190 {p : Program} {l : Launch} {e : Env} {s : State} {m : MethodId} {args : Array Value} {below : List Frame} {meth : Method} {c : Code} {D : va_G} {A : Nat → Prop} {ad : Nat → Nat} {ca : Nat → ClassId} (o : z_Sg) (C0 : z_cx z_RMo b_Mo_unary 4 none D (z_Mt ca) A p s m args meth c) (q : z_Sg) (h : k_Mo_unary_190 q = some o) : ∀ (H : Heap) (locs : List Loc) (ls : Array Slot), z_wd D (z_M ad ca q) A s H locs → lv_has ls 4 [] → W p l e (z_rm 7 174) s m args below meth c H locs 0 0 (z_qv below D (z_Mt ca) (z_M ad ca o) A s args) (F0 m 190 ls []) := by
  obtain ⟨hx, hb, hr, hlk, hml, hown, hts, hK, hA⟩ := id C0
  intro H locs ls hw hl
  have ho := Option.some.inj h
  subst ho
  exact z_rtv C0 hw d_Mo_unary_190
set_option maxHeartbeats 4000000 in
set_option maxRecDepth 100000 in
theorem w_Mo_unary_187 {p : Program} {l : Launch} {e : Env} {s : State} {m : MethodId} {args : Array Value} {below : List Frame} {meth : Method} {c : Code} {D : va_G} {A : Nat → Prop} {ad : Nat → Nat} {ca : Nat → ClassId} (o : z_Sg) (C0 : z_cx z_RMo b_Mo_unary 4 none D (z_Mt ca) A p s m args meth c) (q : z_Sg) (t1 : Int64) (t2 : Int32) (t3 : Int32) (h : k_Mo_unary_187 t1 t2 t3 q = some o) : ∀ (H : Heap) (locs : List Loc) (ls : Array Slot), z_wd D (z_M ad ca q) A s H locs → lv_has ls 4 [] → W p l e (z_rm 7 174) s m args below meth c H locs 0 0 (z_qv below D (z_Mt ca) (z_M ad ca o) A s args) (F0 m 187 ls [.int t3, .int t2, .long t1, .ref (ad 0)]) := by
  obtain ⟨hx, hb, hr, hlk, hml, hown, hts, hK, hA⟩ := id C0
  intro H locs ls hw hl
  obtain ⟨r11, er11, h⟩ := ok_b h
  refine z_vv (rest := []) C0 hw (c_Mo_divide t1 t2 t3 q r11 er11) mw_Mo_divide ml_Mo_442 0 rfl ⟨Nat.le_of_ble_eq_true rfl, Nat.le_of_ble_eq_true rfl⟩ ⟨Nat.le_refl 0, Nat.le_refl 0⟩ rfl hl.1 rfl (Nat.le_of_ble_eq_true rfl) d_Mo_unary_187 (fun H locs hw => ?_)
  exact w_Mo_unary_190 o C0 r11 h H locs ls hw (lv_sub hl [] rfl)
set_option maxHeartbeats 4000000 in
set_option maxRecDepth 100000 in
theorem w_Mo_unary_159 {p : Program} {l : Launch} {e : Env} {s : State} {m : MethodId} {args : Array Value} {below : List Frame} {meth : Method} {c : Code} {D : va_G} {A : Nat → Prop} {ad : Nat → Nat} {ca : Nat → ClassId} (o : z_Sg) (C0 : z_cx z_RMo b_Mo_unary 4 none D (z_Mt ca) A p s m args meth c) (q : z_Sg) (t1 : Int64) (t2 : Int32) (t3 : Int32) (h : k_Mo_unary_159 t1 t2 t3 q = some o) : ∀ (H : Heap) (locs : List Loc) (ls : Array Slot), z_wd D (z_M ad ca q) A s H locs → lv_has ls 4 [] → W p l e (z_rm 7 174) s m args below meth c H locs 0 0 (z_qv below D (z_Mt ca) (z_M ad ca o) A s args) (F0 m 159 ls [.int t3, .int t2, .long t1, .ref (ad 0)]) := by
  obtain ⟨hx, hb, hr, hlk, hml, hown, hts, hK, hA⟩ := id C0
  intro H locs ls hw hl
  obtain ⟨r14, er14, h⟩ := ok_b h
  refine z_vv (rest := []) C0 hw (c_Mo_multiplyOperand t1 t2 t3 q r14 er14) mw_Mo_multiplyOperand ml_Mo_438 0 rfl ⟨Nat.le_of_ble_eq_true rfl, Nat.le_of_ble_eq_true rfl⟩ ⟨Nat.le_refl 0, Nat.le_refl 0⟩ rfl hl.1 rfl (Nat.le_of_ble_eq_true rfl) d_Mo_unary_159 (fun H locs hw => ?_)
  refine lv_goto (tgt := 190) hx hb d_Mo_unary_162 (by decide) ?_
  exact w_Mo_unary_190 o C0 r14 h H locs ls hw (lv_sub hl [] rfl)
set_option maxHeartbeats 4000000 in
set_option maxRecDepth 100000 in
theorem w_Mo_unary_18 {p : Program} {l : Launch} {e : Env} {s : State} {m : MethodId} {args : Array Value} {below : List Frame} {meth : Method} {c : Code} {D : va_G} {A : Nat → Prop} {ad : Nat → Nat} {ca : Nat → ClassId} (o : z_Sg) (C0 : z_cx z_RMo b_Mo_unary 4 none D (z_Mt ca) A p s m args meth c) (q : z_Sg) (x1 : Int32) (h : k_Mo_unary_18 x1 q = some o) : ∀ (H : Heap) (locs : List Loc) (ls : Array Slot), z_wd D (z_M ad ca q) A s H locs → lv_has ls 4 [(0, .ref (ad 0)), (1, .int x1)] → W p l e (z_rm 7 174) s m args below meth c H locs 0 0 (z_qv below D (z_Mt ca) (z_M ad ca o) A s args) (F0 m 18 ls []) := by
  obtain ⟨hx, hb, hr, hlk, hml, hown, hts, hK, hA⟩ := id C0
  intro H locs ls hw hl
  refine lv_aload_n hx hb d_Mo_unary_18 rfl (lv_at hl 0 rfl) ?_
  obtain ⟨r3, er3, h⟩ := ok_b h
  refine z_vv (rest := []) C0 hw (c_Mo_takePlace q r3 er3) mw_Mo_takePlace ml_Mo_170 0 rfl ⟨Nat.le_of_ble_eq_true rfl, Nat.le_of_ble_eq_true rfl⟩ ⟨Nat.le_refl 0, Nat.le_refl 0⟩ rfl hl.1 rfl (Nat.le_of_ble_eq_true rfl) d_Mo_unary_19 (fun H locs hw => ?_)
  refine lv_aload_n hx hb d_Mo_unary_22 rfl (lv_at hl 0 rfl) ?_
  refine lv_aload_n hx hb d_Mo_unary_23 rfl (lv_at hl 0 rfl) ?_
  refine gfM_0_next C0 hw fl_Mo_111 d_Mo_unary_24 ?_
  refine lv_aload_n hx hb d_Mo_unary_27 rfl (lv_at hl 0 rfl) ?_
  refine gfM_0_length C0 hw fl_Mo_108 d_Mo_unary_28 ?_
  refine lv_i2l hx hb d_Mo_unary_31 rfl ?_
  refine lv_ladd hx hb d_Mo_unary_32 ?_
  refine pfM_0_goes C0 hw fl_Mo_173 d_Mo_unary_33 (fun H locs hw => ?_)
  obtain ⟨q4, eq4, h⟩ := ok_n h
  rw [← eq4] at hw
  refine lv_aload_n hx hb d_Mo_unary_36 rfl (lv_at hl 0 rfl) ?_
  refine gfM_0_reg C0 hw fl_Mo_139 d_Mo_unary_37 ?_
  refine lv_if_ne (tgt := 73) hx hb d_Mo_unary_40 (by decide) (fun c5 => ?_) (fun c5 => ?_)
  · have h := ok_f h c5
    refine lv_aload_n hx hb d_Mo_unary_73 rfl (lv_at hl 0 rfl) ?_
    refine gfM_0_reg C0 hw fl_Mo_139 d_Mo_unary_74 ?_
    refine lv_iconst (v := (2 : Int32)) hx hb d_Mo_unary_77 (by decide) ?_
    refine lv_icmp_ne (tgt := 99) hx hb d_Mo_unary_78 (by decide) (fun c6 => ?_) (fun c6 => ?_)
    · have h := ok_f h c6
      refine lv_aload_n hx hb d_Mo_unary_99 rfl (lv_at hl 0 rfl) ?_
      refine gfM_0_reg C0 hw fl_Mo_139 d_Mo_unary_100 ?_
      refine lv_iconst (v := (3 : Int32)) hx hb d_Mo_unary_103 (by decide) ?_
      refine lv_icmp_ne (tgt := 129) hx hb d_Mo_unary_104 (by decide) (fun c7 => ?_) (fun c7 => ?_)
      · have h := ok_f h c7
        refine lv_aload_n hx hb d_Mo_unary_129 rfl (lv_at hl 0 rfl) ?_
        refine gfM_0_reg C0 hw fl_Mo_139 d_Mo_unary_130 ?_
        refine lv_bipush (v := (6 : Int32)) hx hb d_Mo_unary_133 (by decide) ?_
        refine lv_icmp_ge (tgt := 165) hx hb d_Mo_unary_135 (by decide) (fun c8 => ?_) (fun c8 => ?_)
        · have h := ok_t h c8
          refine lv_aload_n hx hb d_Mo_unary_165 rfl (lv_at hl 0 rfl) ?_
          refine lv_aload_n hx hb d_Mo_unary_166 rfl (lv_at hl 0 rfl) ?_
          refine lv_iload_n hx hb d_Mo_unary_167 rfl (lv_at hl 1 rfl) ?_
          refine lv_iconst (v := (0 : Int32)) hx hb d_Mo_unary_168 (by decide) ?_
          obtain ⟨r9, er9, h⟩ := ok_b h
          refine z_vl (rest := [.ref (ad 0)]) C0 hw (c_Mo_e x1 (0 : Int32) q4 r9 er9) mw_Mo_e ml_Mo_338 0 rfl ⟨Nat.le_of_ble_eq_true rfl, Nat.le_of_ble_eq_true rfl⟩ ⟨Nat.le_refl 0, Nat.le_refl 0⟩ rfl hl.1 rfl (Nat.le_of_ble_eq_true rfl) d_Mo_unary_169 (fun H locs hw => ?_)
          refine lv_iload_n hx hb d_Mo_unary_172 rfl (lv_at hl 1 rfl) ?_
          refine lv_aload_n hx hb d_Mo_unary_173 rfl (lv_at hl 0 rfl) ?_
          refine gfM_0_reg C0 hw fl_Mo_139 d_Mo_unary_174 ?_
          refine lv_bipush (v := (7 : Int32)) hx hb d_Mo_unary_177 (by decide) ?_
          refine lv_icmp_ne (tgt := 186) hx hb d_Mo_unary_179 (by decide) (fun c10 => ?_) (fun c10 => ?_)
          · have h := ok_f h c10
            refine lv_iconst (v := (0 : Int32)) hx hb d_Mo_unary_186 (by decide) ?_
            exact w_Mo_unary_187 o C0 r9.2 r9.1 x1 (0 : Int32) h H locs ls hw (lv_sub hl [] rfl)
          · have h := ok_t h c10
            refine lv_iconst (v := (1 : Int32)) hx hb d_Mo_unary_182 (by decide) ?_
            refine lv_goto (tgt := 187) hx hb d_Mo_unary_183 (by decide) ?_
            exact w_Mo_unary_187 o C0 r9.2 r9.1 x1 (1 : Int32) h H locs ls hw (lv_sub hl [] rfl)
        · have h := ok_f h c8
          refine lv_aload_n hx hb d_Mo_unary_138 rfl (lv_at hl 0 rfl) ?_
          refine lv_aload_n hx hb d_Mo_unary_139 rfl (lv_at hl 0 rfl) ?_
          refine lv_iload_n hx hb d_Mo_unary_140 rfl (lv_at hl 1 rfl) ?_
          refine lv_iconst (v := (0 : Int32)) hx hb d_Mo_unary_141 (by decide) ?_
          obtain ⟨r12, er12, h⟩ := ok_b h
          refine z_vl (rest := [.ref (ad 0)]) C0 hw (c_Mo_e x1 (0 : Int32) q4 r12 er12) mw_Mo_e ml_Mo_338 0 rfl ⟨Nat.le_of_ble_eq_true rfl, Nat.le_of_ble_eq_true rfl⟩ ⟨Nat.le_refl 0, Nat.le_refl 0⟩ rfl hl.1 rfl (Nat.le_of_ble_eq_true rfl) d_Mo_unary_142 (fun H locs hw => ?_)
          refine lv_iload_n hx hb d_Mo_unary_145 rfl (lv_at hl 1 rfl) ?_
          refine lv_aload_n hx hb d_Mo_unary_146 rfl (lv_at hl 0 rfl) ?_
          refine gfM_0_reg C0 hw fl_Mo_139 d_Mo_unary_147 ?_
          refine lv_iconst (v := (5 : Int32)) hx hb d_Mo_unary_150 (by decide) ?_
          refine lv_icmp_ne (tgt := 158) hx hb d_Mo_unary_151 (by decide) (fun c13 => ?_) (fun c13 => ?_)
          · have h := ok_f h c13
            refine lv_iconst (v := (0 : Int32)) hx hb d_Mo_unary_158 (by decide) ?_
            exact w_Mo_unary_159 o C0 r12.2 r12.1 x1 (0 : Int32) h H locs ls hw (lv_sub hl [] rfl)
          · have h := ok_t h c13
            refine lv_iconst (v := (1 : Int32)) hx hb d_Mo_unary_154 (by decide) ?_
            refine lv_goto (tgt := 159) hx hb d_Mo_unary_155 (by decide) ?_
            exact w_Mo_unary_159 o C0 r12.2 r12.1 x1 (1 : Int32) h H locs ls hw (lv_sub hl [] rfl)
      · have h := ok_t h c7
        refine lv_aload_n hx hb d_Mo_unary_107 rfl (lv_at hl 0 rfl) ?_
        refine lv_iload_n hx hb d_Mo_unary_108 rfl (lv_at hl 1 rfl) ?_
        refine lv_aload_n hx hb d_Mo_unary_109 rfl (lv_at hl 0 rfl) ?_
        refine lv_lconst (v := (0 : Int64)) hx hb d_Mo_unary_110 (by decide) ?_
        refine lv_aload_n hx hb d_Mo_unary_111 rfl (lv_at hl 0 rfl) ?_
        refine lv_iload_n hx hb d_Mo_unary_112 rfl (lv_at hl 1 rfl) ?_
        refine lv_iconst (v := (1 : Int32)) hx hb d_Mo_unary_113 (by decide) ?_
        obtain ⟨r15, er15, h⟩ := ok_b h
        refine z_vl (rest := [.long (0 : Int64), .ref (ad 0), .int x1, .ref (ad 0)]) C0 hw (c_Mo_e x1 (1 : Int32) q4 r15 er15) mw_Mo_e ml_Mo_338 0 rfl ⟨Nat.le_of_ble_eq_true rfl, Nat.le_of_ble_eq_true rfl⟩ ⟨Nat.le_refl 0, Nat.le_refl 0⟩ rfl hl.1 rfl (Nat.le_of_ble_eq_true rfl) d_Mo_unary_114 (fun H locs hw => ?_)
        refine lv_iconst (v := (0 : Int32)) hx hb d_Mo_unary_117 (by decide) ?_
        refine lv_iconst (v := (1 : Int32)) hx hb d_Mo_unary_118 (by decide) ?_
        refine lv_iload_n hx hb d_Mo_unary_119 rfl (lv_at hl 1 rfl) ?_
        obtain ⟨r16, er16, h⟩ := ok_b h
        refine z_vl (rest := [.int x1, .ref (ad 0)]) C0 hw (c_Mo_add (0 : Int64) r15.1 (0 : Int32) (1 : Int32) x1 r15.2 r16 er16) mw_Mo_add ml_Mo_225 0 rfl ⟨Nat.le_of_ble_eq_true rfl, Nat.le_of_ble_eq_true rfl⟩ ⟨Nat.le_refl 0, Nat.le_refl 0⟩ rfl hl.1 rfl (Nat.le_of_ble_eq_true rfl) d_Mo_unary_120 (fun H locs hw => ?_)
        obtain ⟨r17, er17, h⟩ := ok_b h
        refine z_vv (rest := []) C0 hw (c_Mo_setE x1 r16.1 r16.2 r17 er17) mw_Mo_setE ml_Mo_348 0 rfl ⟨Nat.le_of_ble_eq_true rfl, Nat.le_of_ble_eq_true rfl⟩ ⟨Nat.le_refl 0, Nat.le_refl 0⟩ rfl hl.1 rfl (Nat.le_of_ble_eq_true rfl) d_Mo_unary_123 (fun H locs hw => ?_)
        refine lv_goto (tgt := 190) hx hb d_Mo_unary_126 (by decide) ?_
        exact w_Mo_unary_190 o C0 r17 h H locs ls hw (lv_sub hl [] rfl)
    · have h := ok_t h c6
      refine lv_aload_n hx hb d_Mo_unary_81 rfl (lv_at hl 0 rfl) ?_
      refine lv_iload_n hx hb d_Mo_unary_82 rfl (lv_at hl 1 rfl) ?_
      refine lv_aload_n hx hb d_Mo_unary_83 rfl (lv_at hl 0 rfl) ?_
      refine lv_iload_n hx hb d_Mo_unary_84 rfl (lv_at hl 1 rfl) ?_
      refine lv_iconst (v := (1 : Int32)) hx hb d_Mo_unary_85 (by decide) ?_
      obtain ⟨r18, er18, h⟩ := ok_b h
      refine z_vl (rest := [.int x1, .ref (ad 0)]) C0 hw (c_Mo_e x1 (1 : Int32) q4 r18 er18) mw_Mo_e ml_Mo_338 0 rfl ⟨Nat.le_of_ble_eq_true rfl, Nat.le_of_ble_eq_true rfl⟩ ⟨Nat.le_refl 0, Nat.le_refl 0⟩ rfl hl.1 rfl (Nat.le_of_ble_eq_true rfl) d_Mo_unary_86 (fun H locs hw => ?_)
      refine lv_ldc2 (own := z_RMo) hx hb hown (hts _ kl_Mo_71) d_Mo_unary_89 ?_
      refine lv_lxor hx hb d_Mo_unary_92 ?_
      obtain ⟨r19, er19, h⟩ := ok_b h
      refine z_vv (rest := []) C0 hw (c_Mo_setE x1 (r18.1 ^^^ (-1 : Int64)) r18.2 r19 er19) mw_Mo_setE ml_Mo_348 0 rfl ⟨Nat.le_of_ble_eq_true rfl, Nat.le_of_ble_eq_true rfl⟩ ⟨Nat.le_refl 0, Nat.le_refl 0⟩ rfl hl.1 rfl (Nat.le_of_ble_eq_true rfl) d_Mo_unary_93 (fun H locs hw => ?_)
      refine lv_goto (tgt := 190) hx hb d_Mo_unary_96 (by decide) ?_
      exact w_Mo_unary_190 o C0 r19 h H locs ls hw (lv_sub hl [] rfl)
  · have h := ok_t h c5
    refine lv_aload_n hx hb d_Mo_unary_43 rfl (lv_at hl 0 rfl) ?_
    refine lv_iload_n hx hb d_Mo_unary_44 rfl (lv_at hl 1 rfl) ?_
    obtain ⟨r20, er20, h⟩ := ok_b h
    refine z_si (rest := [.ref (ad 0)]) C0 hw (c_Mo_four x1 q4 r20 er20) mw_Mo_four ml_Mo_370 ⟨Nat.le_of_ble_eq_true rfl, Nat.le_of_ble_eq_true rfl⟩ ⟨Nat.le_refl 0, Nat.le_refl 0⟩ rfl hl.1 rfl (Nat.le_of_ble_eq_true rfl) d_Mo_unary_45 (fun H locs hw => ?_)
    obtain ⟨r21, er21, h⟩ := ok_b h
    refine z_vl (rest := []) C0 hw (c_Mo_number r20 q4 r21 er21) mw_Mo_number ml_Mo_373 0 rfl ⟨Nat.le_of_ble_eq_true rfl, Nat.le_of_ble_eq_true rfl⟩ ⟨Nat.le_refl 0, Nat.le_refl 0⟩ rfl hl.1 rfl (Nat.le_of_ble_eq_true rfl) d_Mo_unary_48 (fun H locs hw => ?_)
    refine lv_iload_n hx hb d_Mo_unary_51 rfl (lv_at hl 1 rfl) ?_
    obtain ⟨r22, er22, h⟩ := ok_b h
    refine z_sl (rest := []) C0 hw (c_Mo_lowest r21.1 x1 r21.2 r22 er22) mw_Mo_lowest ml_Mo_180 ⟨Nat.le_of_ble_eq_true rfl, Nat.le_of_ble_eq_true rfl⟩ ⟨Nat.le_refl 0, Nat.le_refl 0⟩ rfl hl.1 rfl (Nat.le_of_ble_eq_true rfl) d_Mo_unary_52 (fun H locs hw => ?_)
    refine lv_lstore_n (lv' := [(2, .long r22), (0, .ref (ad 0)), (1, .int x1)]) hx hb d_Mo_unary_55 rfl hl (by decide) rfl (fun ls hl => ?_)
    refine lv_aload_n hx hb d_Mo_unary_56 rfl (lv_at hl 1 rfl) ?_
    refine lv_aload_n hx hb d_Mo_unary_57 rfl (lv_at hl 1 rfl) ?_
    refine lv_iload_n hx hb d_Mo_unary_58 rfl (lv_at hl 2 rfl) ?_
    refine lv_iconst (v := (0 : Int32)) hx hb d_Mo_unary_59 (by decide) ?_
    obtain ⟨r23, er23, h⟩ := ok_b h
    refine z_vl (rest := [.ref (ad 0)]) C0 hw (c_Mo_e x1 (0 : Int32) r21.2 r23 er23) mw_Mo_e ml_Mo_338 0 rfl ⟨Nat.le_of_ble_eq_true rfl, Nat.le_of_ble_eq_true rfl⟩ ⟨Nat.le_refl 0, Nat.le_refl 0⟩ rfl hl.1 rfl (Nat.le_of_ble_eq_true rfl) d_Mo_unary_60 (fun H locs hw => ?_)
    refine lv_lload_n hx hb d_Mo_unary_63 rfl (lv_at hl 0 rfl) ?_
    refine lv_land hx hb d_Mo_unary_64 ?_
    refine lv_iload_n hx hb d_Mo_unary_65 rfl (lv_at hl 2 rfl) ?_
    obtain ⟨r24, er24, h⟩ := ok_b h
    refine z_vl (rest := []) C0 hw (c_Mo_logic (r23.1 &&& r22) x1 r23.2 r24 er24) mw_Mo_logic ml_Mo_222 0 rfl ⟨Nat.le_of_ble_eq_true rfl, Nat.le_of_ble_eq_true rfl⟩ ⟨Nat.le_refl 0, Nat.le_refl 0⟩ rfl hl.1 rfl (Nat.le_of_ble_eq_true rfl) d_Mo_unary_66 (fun H locs hw => ?_)
    refine lv_pop2_2 hx hb d_Mo_unary_69 rfl ?_
    refine lv_goto (tgt := 190) hx hb d_Mo_unary_70 (by decide) ?_
    exact w_Mo_unary_190 o C0 r24.2 h H locs ls hw (lv_sub hl [] rfl)
set_option maxHeartbeats 4000000 in
set_option maxRecDepth 100000 in
theorem c_Mo_unary {l : Launch} {D : va_G} {ad : Nat → Nat} {ca : Nat → ClassId} (x1 : Int32) (q : z_Sg) (o : z_Sg) (h : f_Mo_unary x1 q = some o) : z_cv l y_Mo_unary b_Mo_unary 4 none 7 174 D (z_Mt ca) (z_M ad ca q) (z_M ad ca o) [.ref (ad 0), .int x1] := by
  refine z_cv_of (own := z_RMo) (by decide) rfl ?_
  intro p e s m below meth c A C0 hw
  obtain ⟨hx, hb, hr, hlk, hml, hown, hts, hK, hA⟩ := id C0
  generalize hH : s.heap = H at hw ⊢
  generalize hlo : ([] : List Loc) = locs at hw ⊢
  refine z_entry (lv := [(0, .ref (ad 0)), (1, .int x1)]) (Nat.le_of_ble_eq_true rfl) rfl (fun ls hl => ?_)
  unfold f_Mo_unary at h
  refine lv_aload_n hx hb d_Mo_unary_0 rfl (lv_at hl 0 rfl) ?_
  obtain ⟨r1, er1, h⟩ := ok_b h
  refine z_vv (rest := []) C0 hw (c_Mo_takeMod q r1 er1) mw_Mo_takeMod ml_Mo_167 0 rfl ⟨Nat.le_of_ble_eq_true rfl, Nat.le_of_ble_eq_true rfl⟩ ⟨Nat.le_refl 0, Nat.le_refl 0⟩ rfl hl.1 rfl (Nat.le_of_ble_eq_true rfl) d_Mo_unary_1 (fun H locs hw => ?_)
  refine lv_aload_n hx hb d_Mo_unary_4 rfl (lv_at hl 0 rfl) ?_
  refine gfM_0_reg C0 hw fl_Mo_139 d_Mo_unary_5 ?_
  refine lv_iconst (v := (1 : Int32)) hx hb d_Mo_unary_8 (by decide) ?_
  refine lv_icmp_ne (tgt := 18) hx hb d_Mo_unary_9 (by decide) (fun c2 => ?_) (fun c2 => ?_)
  · have h := ok_f h c2
    exact w_Mo_unary_18 o C0 r1 x1 h H locs ls hw (lv_sub hl [0, 1] rfl)
  · have h := ok_t h c2
    refine lv_aload_n hx hb d_Mo_unary_12 rfl (lv_at hl 0 rfl) ?_
    refine lv_bipush (v := (6 : Int32)) hx hb d_Mo_unary_13 (by decide) ?_
    obtain ⟨r25, er25, h⟩ := ok_b h
    refine z_vv (rest := []) C0 hw (c_Mo_refuse (6 : Int32) r1 r25 er25) mw_Mo_refuse ml_Mo_81 0 rfl ⟨Nat.le_of_ble_eq_true rfl, Nat.le_of_ble_eq_true rfl⟩ ⟨Nat.le_refl 0, Nat.le_refl 0⟩ rfl hl.1 rfl (Nat.le_of_ble_eq_true rfl) d_Mo_unary_15 (fun H locs hw => ?_)
    exact w_Mo_unary_18 o C0 r25 x1 h H locs ls hw (lv_sub hl [0, 1] rfl)
def f_Mo_push (x1 : Int64) (x3 : Int32) (q : z_Sg) : Option z_Sg :=
  if z_bad (4 : Int32) 16 then none else ((f_Mo_lookUp ((z_gM q 0 (4 : Int32).toNatClampNeg) - (x3.toInt64)) x3 (1 : Int32) (1 : Int32) q).bind (fun r2 => if (z_gI r2 4) = (-1 : Int32) then (if z_bad (4 : Int32) 16 then none else (if z_bad (4 : Int32) 16 then none else (z_nm (z_sM r2 0 (4 : Int32).toNatClampNeg ((z_gM r2 0 (4 : Int32).toNatClampNeg) - (x3.toInt64))) (fun q6 => (f_Mo_hold x1 x3 q6).bind (fun r7 => some r7))))) else (some r2)))
set_option maxHeartbeats 4000000 in
set_option maxRecDepth 100000 in
theorem c_Mo_push {l : Launch} {D : va_G} {ad : Nat → Nat} {ca : Nat → ClassId} (x1 : Int64) (x3 : Int32) (q : z_Sg) (o : z_Sg) (h : f_Mo_push x1 x3 q = some o) : z_cv l y_Mo_push b_Mo_push 4 none 4 107 D (z_Mt ca) (z_M ad ca q) (z_M ad ca o) [.ref (ad 0), .long x1, .int x3] := by
  refine z_cv_of (own := z_RMo) (by decide) rfl ?_
  intro p e s m below meth c A C0 hw
  obtain ⟨hx, hb, hr, hlk, hml, hown, hts, hK, hA⟩ := id C0
  generalize hH : s.heap = H at hw ⊢
  generalize hlo : ([] : List Loc) = locs at hw ⊢
  refine z_entry (lv := [(0, .ref (ad 0)), (1, .long x1), (3, .int x3)]) (Nat.le_of_ble_eq_true rfl) rfl (fun ls hl => ?_)
  unfold f_Mo_push at h
  refine lv_aload_n hx hb d_Mo_push_0 rfl (lv_at hl 0 rfl) ?_
  refine lv_aload_n hx hb d_Mo_push_1 rfl (lv_at hl 0 rfl) ?_
  refine gfM_0_r C0 hw fl_Mo_14 d_Mo_push_2 ?_
  refine lv_iconst (v := (4 : Int32)) hx hb d_Mo_push_5 (by decide) ?_
  obtain ⟨b1, h⟩ := ok_g h
  refine alM_2 C0 hw b1 d_Mo_push_6 ?_
  refine lv_iload_n hx hb d_Mo_push_7 rfl (lv_at hl 2 rfl) ?_
  refine lv_i2l hx hb d_Mo_push_8 rfl ?_
  refine lv_lsub hx hb d_Mo_push_9 ?_
  refine lv_iload_n hx hb d_Mo_push_10 rfl (lv_at hl 2 rfl) ?_
  refine lv_iconst (v := (1 : Int32)) hx hb d_Mo_push_11 (by decide) ?_
  refine lv_iconst (v := (1 : Int32)) hx hb d_Mo_push_12 (by decide) ?_
  obtain ⟨r2, er2, h⟩ := ok_b h
  refine z_vv (rest := []) C0 hw (c_Mo_lookUp ((z_gM q 0 (4 : Int32).toNatClampNeg) - (x3.toInt64)) x3 (1 : Int32) (1 : Int32) q r2 er2) mw_Mo_lookUp ml_Mo_95 0 rfl ⟨Nat.le_of_ble_eq_true rfl, Nat.le_of_ble_eq_true rfl⟩ ⟨Nat.le_refl 0, Nat.le_refl 0⟩ rfl hl.1 rfl (Nat.le_of_ble_eq_true rfl) d_Mo_push_13 (fun H locs hw => ?_)
  refine lv_aload_n hx hb d_Mo_push_16 rfl (lv_at hl 0 rfl) ?_
  refine gfM_0_refused C0 hw fl_Mo_28 d_Mo_push_17 ?_
  refine lv_iconst (v := (-1 : Int32)) hx hb d_Mo_push_20 (by decide) ?_
  refine lv_icmp_eq (tgt := 25) hx hb d_Mo_push_21 (by decide) (fun c3 => ?_) (fun c3 => ?_)
  · have h := ok_t h c3
    refine lv_aload_n hx hb d_Mo_push_25 rfl (lv_at hl 0 rfl) ?_
    refine gfM_0_r C0 hw fl_Mo_14 d_Mo_push_26 ?_
    refine lv_iconst (v := (4 : Int32)) hx hb d_Mo_push_29 (by decide) ?_
    refine lv_dup2_11 hx hb d_Mo_push_30 rfl rfl ?_
    obtain ⟨b4, h⟩ := ok_g h
    refine alM_2 C0 hw b4 d_Mo_push_31 ?_
    refine lv_iload_n hx hb d_Mo_push_32 rfl (lv_at hl 2 rfl) ?_
    refine lv_i2l hx hb d_Mo_push_33 rfl ?_
    refine lv_lsub hx hb d_Mo_push_34 ?_
    obtain ⟨b5, h⟩ := ok_g h
    refine asM_2 C0 hw b5 d_Mo_push_35 (fun H locs hw => ?_)
    obtain ⟨q6, eq6, h⟩ := ok_n h
    rw [← eq6] at hw
    refine lv_aload_n hx hb d_Mo_push_36 rfl (lv_at hl 0 rfl) ?_
    refine lv_lload_n hx hb d_Mo_push_37 rfl (lv_at hl 1 rfl) ?_
    refine lv_iload_n hx hb d_Mo_push_38 rfl (lv_at hl 2 rfl) ?_
    obtain ⟨r7, er7, h⟩ := ok_b h
    refine z_vv (rest := []) C0 hw (c_Mo_hold x1 x3 q6 r7 er7) mw_Mo_hold ml_Mo_201 0 rfl ⟨Nat.le_of_ble_eq_true rfl, Nat.le_of_ble_eq_true rfl⟩ ⟨Nat.le_refl 0, Nat.le_refl 0⟩ rfl hl.1 rfl (Nat.le_of_ble_eq_true rfl) d_Mo_push_39 (fun H locs hw => ?_)
    have ho := Option.some.inj h
    subst ho
    exact z_rtv C0 hw d_Mo_push_42
  · have h := ok_f h c3
    have ho := Option.some.inj h
    subst ho
    exact z_rtv C0 hw d_Mo_push_24
def k_Mo_jump_21 (q : z_Sg) : Option z_Sg :=
  some q
def f_Mo_jump (x1 : Int64) (q : z_Sg) : Option z_Sg :=
  (f_Mo_isWrong x1 q).bind (fun r1 => if r1 = 0 then (z_nm (z_sL q 7 x1) (fun q3 => k_Mo_jump_21 q3)) else ((f_Mo_refuse (13 : Int32) q).bind (fun r4 => k_Mo_jump_21 r4)))
set_option maxHeartbeats 4000000 in
set_option maxRecDepth 100000 in
theorem w_Mo_jump_21 {p : Program} {l : Launch} {e : Env} {s : State} {m : MethodId} {args : Array Value} {below : List Frame} {meth : Method} {c : Code} {D : va_G} {A : Nat → Prop} {ad : Nat → Nat} {ca : Nat → ClassId} (o : z_Sg) (C0 : z_cx z_RMo b_Mo_jump 3 none D (z_Mt ca) A p s m args meth c) (q : z_Sg) (h : k_Mo_jump_21 q = some o) : ∀ (H : Heap) (locs : List Loc) (ls : Array Slot), z_wd D (z_M ad ca q) A s H locs → lv_has ls 3 [] → W p l e (z_rm 1 24) s m args below meth c H locs 0 0 (z_qv below D (z_Mt ca) (z_M ad ca o) A s args) (F0 m 21 ls []) := by
  obtain ⟨hx, hb, hr, hlk, hml, hown, hts, hK, hA⟩ := id C0
  intro H locs ls hw hl
  have ho := Option.some.inj h
  subst ho
  exact z_rtv C0 hw d_Mo_jump_21
set_option maxHeartbeats 4000000 in
set_option maxRecDepth 100000 in
theorem c_Mo_jump {l : Launch} {D : va_G} {ad : Nat → Nat} {ca : Nat → ClassId} (x1 : Int64) (q : z_Sg) (o : z_Sg) (h : f_Mo_jump x1 q = some o) : z_cv l y_Mo_jump b_Mo_jump 3 none 1 24 D (z_Mt ca) (z_M ad ca q) (z_M ad ca o) [.ref (ad 0), .long x1] := by
  refine z_cv_of (own := z_RMo) (by decide) rfl ?_
  intro p e s m below meth c A C0 hw
  obtain ⟨hx, hb, hr, hlk, hml, hown, hts, hK, hA⟩ := id C0
  generalize hH : s.heap = H at hw ⊢
  generalize hlo : ([] : List Loc) = locs at hw ⊢
  refine z_entry (lv := [(0, .ref (ad 0)), (1, .long x1)]) (Nat.le_of_ble_eq_true rfl) rfl (fun ls hl => ?_)
  unfold f_Mo_jump at h
  refine lv_lload_n hx hb d_Mo_jump_0 rfl (lv_at hl 1 rfl) ?_
  obtain ⟨r1, er1, h⟩ := ok_b h
  refine z_si (rest := []) C0 hw (c_Mo_isWrong x1 q r1 er1) mw_Mo_isWrong ml_Mo_77 ⟨Nat.le_of_ble_eq_true rfl, Nat.le_of_ble_eq_true rfl⟩ ⟨Nat.le_refl 0, Nat.le_refl 0⟩ rfl hl.1 rfl (Nat.le_of_ble_eq_true rfl) d_Mo_jump_1 (fun H locs hw => ?_)
  refine lv_if_eq (tgt := 16) hx hb d_Mo_jump_4 (by decide) (fun c2 => ?_) (fun c2 => ?_)
  · have h := ok_t h c2
    refine lv_aload_n hx hb d_Mo_jump_16 rfl (lv_at hl 0 rfl) ?_
    refine lv_lload_n hx hb d_Mo_jump_17 rfl (lv_at hl 1 rfl) ?_
    refine pfM_0_goes C0 hw fl_Mo_173 d_Mo_jump_18 (fun H locs hw => ?_)
    obtain ⟨q3, eq3, h⟩ := ok_n h
    rw [← eq3] at hw
    exact w_Mo_jump_21 o C0 q3 h H locs ls hw (lv_sub hl [] rfl)
  · have h := ok_f h c2
    refine lv_aload_n hx hb d_Mo_jump_7 rfl (lv_at hl 0 rfl) ?_
    refine lv_bipush (v := (13 : Int32)) hx hb d_Mo_jump_8 (by decide) ?_
    obtain ⟨r4, er4, h⟩ := ok_b h
    refine z_vv (rest := []) C0 hw (c_Mo_refuse (13 : Int32) q r4 er4) mw_Mo_refuse ml_Mo_81 0 rfl ⟨Nat.le_of_ble_eq_true rfl, Nat.le_of_ble_eq_true rfl⟩ ⟨Nat.le_refl 0, Nat.le_refl 0⟩ rfl hl.1 rfl (Nat.le_of_ble_eq_true rfl) d_Mo_jump_10 (fun H locs hw => ?_)
    refine lv_goto (tgt := 21) hx hb d_Mo_jump_13 (by decide) ?_
    exact w_Mo_jump_21 o C0 r4 h H locs ls hw (lv_sub hl [] rfl)
def k_Mo_stackSize_23 (t0 : Int32) (q : z_Sg) : Option Int32 :=
  some t0
def k_Mo_stackSize_21 (q : z_Sg) : Option Int32 :=
  k_Mo_stackSize_23 (8 : Int32) q
def f_Mo_stackSize (q : z_Sg) : Option Int32 :=
  if (z_gI q 16) = 0 then (k_Mo_stackSize_21 q) else (if ((z_gI q 10) &&& (8 : Int32)) = 0 then (k_Mo_stackSize_23 (2 : Int32) q) else (k_Mo_stackSize_21 q))
set_option maxHeartbeats 4000000 in
set_option maxRecDepth 100000 in
theorem w_Mo_stackSize_23 {p : Program} {l : Launch} {e : Env} {s : State} {m : MethodId} {args : Array Value} {below : List Frame} {meth : Method} {c : Code} {D : va_G} {A : Nat → Prop} {ad : Nat → Nat} {ca : Nat → ClassId} (o : Int32) (C0 : z_cx z_RMo b_Mo_stackSize 1 (some .int) D (z_Mt ca) A p s m args meth c) (q : z_Sg) (t0 : Int32) (h : k_Mo_stackSize_23 t0 q = some o) : ∀ (H : Heap) (locs : List Loc) (ls : Array Slot), z_wd D (z_M ad ca q) A s H locs → lv_has ls 1 [] → W p l e (z_rm 0 0) s m args below meth c H locs 0 0 (z_qi below D (z_Mt ca) (z_M ad ca q) A s args o) (F0 m 23 ls [.int t0]) := by
  obtain ⟨hx, hb, hr, hlk, hml, hown, hts, hK, hA⟩ := id C0
  intro H locs ls hw hl
  have ho := Option.some.inj h
  subst ho
  exact z_rti C0 hw d_Mo_stackSize_23
set_option maxHeartbeats 4000000 in
set_option maxRecDepth 100000 in
theorem w_Mo_stackSize_21 {p : Program} {l : Launch} {e : Env} {s : State} {m : MethodId} {args : Array Value} {below : List Frame} {meth : Method} {c : Code} {D : va_G} {A : Nat → Prop} {ad : Nat → Nat} {ca : Nat → ClassId} (o : Int32) (C0 : z_cx z_RMo b_Mo_stackSize 1 (some .int) D (z_Mt ca) A p s m args meth c) (q : z_Sg) (h : k_Mo_stackSize_21 q = some o) : ∀ (H : Heap) (locs : List Loc) (ls : Array Slot), z_wd D (z_M ad ca q) A s H locs → lv_has ls 1 [] → W p l e (z_rm 0 0) s m args below meth c H locs 0 0 (z_qi below D (z_Mt ca) (z_M ad ca q) A s args o) (F0 m 21 ls []) := by
  obtain ⟨hx, hb, hr, hlk, hml, hown, hts, hK, hA⟩ := id C0
  intro H locs ls hw hl
  refine lv_bipush (v := (8 : Int32)) hx hb d_Mo_stackSize_21 (by decide) ?_
  exact w_Mo_stackSize_23 o C0 q (8 : Int32) h H locs ls hw (lv_sub hl [] rfl)
set_option maxHeartbeats 4000000 in
set_option maxRecDepth 100000 in
theorem c_Mo_stackSize {l : Launch} {D : va_G} {ad : Nat → Nat} {ca : Nat → ClassId} (q : z_Sg) (o : Int32) (h : f_Mo_stackSize q = some o) : z_ci l y_Mo_stackSize b_Mo_stackSize 1 (some .int) 0 0 D (z_Mt ca) (z_M ad ca q) (z_M ad ca q) [.ref (ad 0)] o := by
  refine z_ci_of (own := z_RMo) (by decide) rfl ?_
  intro p e s m below meth c A C0 hw
  obtain ⟨hx, hb, hr, hlk, hml, hown, hts, hK, hA⟩ := id C0
  generalize hH : s.heap = H at hw ⊢
  generalize hlo : ([] : List Loc) = locs at hw ⊢
  refine z_entry (lv := [(0, .ref (ad 0))]) (Nat.le_of_ble_eq_true rfl) rfl (fun ls hl => ?_)
  unfold f_Mo_stackSize at h
  refine lv_aload_n hx hb d_Mo_stackSize_0 rfl (lv_at hl 0 rfl) ?_
  refine gfM_0_small C0 hw fl_Mo_127 d_Mo_stackSize_1 ?_
  refine lv_if_eq (tgt := 21) hx hb d_Mo_stackSize_4 (by decide) (fun c1 => ?_) (fun c1 => ?_)
  · have h := ok_t h c1
    exact w_Mo_stackSize_21 o C0 q h H locs ls hw (lv_sub hl [] rfl)
  · have h := ok_f h c1
    refine lv_aload_n hx hb d_Mo_stackSize_7 rfl (lv_at hl 0 rfl) ?_
    refine gfM_0_rex C0 hw fl_Mo_121 d_Mo_stackSize_8 ?_
    refine lv_bipush (v := (8 : Int32)) hx hb d_Mo_stackSize_11 (by decide) ?_
    refine lv_iand hx hb d_Mo_stackSize_13 ?_
    refine lv_if_ne (tgt := 21) hx hb d_Mo_stackSize_14 (by decide) (fun c2 => ?_) (fun c2 => ?_)
    · have h := ok_f h c2
      exact w_Mo_stackSize_21 o C0 q h H locs ls hw (lv_sub hl [] rfl)
    · have h := ok_t h c2
      refine lv_iconst (v := (2 : Int32)) hx hb d_Mo_stackSize_17 (by decide) ?_
      refine lv_goto (tgt := 23) hx hb d_Mo_stackSize_18 (by decide) ?_
      exact w_Mo_stackSize_23 o C0 q (2 : Int32) h H locs ls hw (lv_sub hl [] rfl)
